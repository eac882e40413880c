section PrtS42o
noncomputable abbrev m_X5_readSum : g_M := (g_cn 5, yX5_readSum, cX5_readSum, 4, none, g_look2 ttX5_readSum)
set_option maxRecDepth 20000 in
theorem mt_X5_readSum : g_mt 74 = some m_X5_readSum := rfl
noncomputable abbrev m_X5_readTest : g_M := (g_cn 5, yX5_readTest, cX5_readTest, 4, none, g_look2 ttX5_readTest)
set_option maxRecDepth 20000 in
theorem mt_X5_readTest : g_mt 73 = some m_X5_readTest := rfl
noncomputable abbrev m_X5_readCondition : g_M := (g_cn 5, yX5_readCondition, cX5_readCondition, 4, none, g_look2 ttX5_readCondition)
set_option maxRecDepth 20000 in
theorem mt_X5_readCondition : g_mt 71 = some m_X5_readCondition := rfl
set_option maxRecDepth 20000 in
theorem mt_X5_readFactor : g_mt 76 = some m_X5_readFactor := rfl
theorem z_op {a : Int32} {S : v_Sf} (h : ¬ (f_X5_opens a S) = 0) : a < Int32.ofInt 6 := by
  unfold f_X5_opens at h
  by_cases g : a < Int32.ofInt 6
  · exact g
  · rw [if_neg g] at h
    exact absurd rfl h
noncomputable abbrev m_X5_readNumber : g_M := (g_cn 5, yX5_readNumber, cX5_readNumber, 3, none, g_look2 ttX5_readNumber)
set_option maxRecDepth 20000 in
theorem mt_X5_readNumber : g_mt 77 = some m_X5_readNumber := rfl
noncomputable def D_X5_readNumber_4 (e : Nat) (H4 : Int32 → Int32 → v_Sf → Prop) (K : v_Sf → Prop) (x1 : Int32) (x2 : Int32) (S : v_Sf) : Prop := (((Int32.ofInt 5) < x2 → K (g_X1_put e (Int32.ofInt 1) x1 S)) ∧ (¬ ((Int32.ofInt 5) < x2) → (((f_X5_here S) < (Int32.ofInt 48) → K (g_X1_put e (Int32.ofInt 1) x1 S)) ∧ (¬ ((f_X5_here S) < (Int32.ofInt 48)) → (((Int32.ofInt 57) < (f_X5_here S) → K (g_X1_put e (Int32.ofInt 1) x1 S)) ∧ (¬ ((Int32.ofInt 57) < (f_X5_here S)) → (((¬ x2 = (Int32.ofInt 5)) → H4 ((((Int32.ofInt 10) * x1) + (f_X5_here S)) - (Int32.ofInt 48)) (x2 + (Int32.ofInt 1)) (z_s S 66 4 ((S 66 4) + (Int32.ofInt 1)))) ∧ (¬ (¬ x2 = (Int32.ofInt 5)) → K (g_X5_fail (Int32.ofInt 2) (S 66 4) S)))))))))
noncomputable def D_X5_readNumber (e : Nat) (H4 : Int32 → Int32 → v_Sf → Prop) (K : v_Sf → Prop) (S : v_Sf) : Prop := H4 (Int32.ofInt 0) (Int32.ofInt 0) S
set_option maxRecDepth 4000 in
theorem hd_X5_readNumber (L : Nat) (xs : Nat → Int32) {R : v_Rf} {e : Nat} (hE : R 66 1 = some (e + 1)) (he : z_cd e) (H4 : Int32 → Int32 → v_Sf → Prop) (K : v_Sf → Prop) (k4 : ∀ (x1 : Int32) (x2 : Int32) (S : v_Sf), H4 x1 x2 S → D_X5_readNumber_4 e H4 K x1 x2 S) : ∀ n, (∀ (d : Nat) (x1 : Int32) (x2 : Int32) (S : v_Sf), H4 x1 x2 S → u_P L xs n d m_X5_readNumber 4 [(0, .ref 67), (1, .int x1), (2, .int x2)] [] S R (z_V R K)) := by
  intro n
  induction n using Nat.strongRecOn with
  | ind n ih =>
    intro d x1 x2 S hD
    have hD := k4 x1 x2 S hD
    unfold D_X5_readNumber_4 at hD
    show u_P L xs n d m_X5_readNumber 4 [(0, .ref 67), (1, .int x1), (2, .int x2)] [] S R _
    refine u_st1 rfl (fun _ => rfl) (fun m hm => ?_)
    refine u_st rfl (fun _ => rfl) ?_
    show u_P L xs m d m_X5_readNumber 6 [(0, .ref 67), (1, .int x1), (2, .int x2)] [.int (Int32.ofInt 5), .int x2] S R _
    refine u_ic_gt rfl (fun h1 => ?_) (fun h1 => ?_)
    · have hD := hD.1 h1
      show u_P L xs m d m_X5_readNumber 71 [(0, .ref 67), (1, .int x1), (2, .int x2)] [] S R _
      refine u_st rfl (fun _ => rfl) ?_
      show u_P L xs m d m_X5_readNumber 72 [(0, .ref 67), (1, .int x1), (2, .int x2)] [.ref 67] S R _
      refine u_getv rfl rfl rfl hE ?_
      refine u_st rfl (fun _ => rfl) ?_
      refine u_st rfl (fun _ => rfl) ?_
      show u_P L xs m d m_X5_readNumber 77 [(0, .ref 67), (1, .int x1), (2, .int x2)] [.int x1, .int (Int32.ofInt 1), .ref (e + 1)] S R _
      refine u_cv (rest := []) rfl (by decide) mt_X1_put (z_cd0 he) rfl rfl rfl (Nat.le_of_ble_eq_true rfl) (Nat.le_of_ble_eq_true rfl) (Nat.le_of_ble_eq_true rfl) (fun d' => c_X1_put L xs m d' e he (Int32.ofInt 1) x1 S R) ?_
      rintro _ _ _ ⟨_, rfl, rfl, rfl, rfl⟩
      refine u_st rfl (fun _ => rfl) ?_
      show u_P L xs m d m_X5_readNumber 81 [(0, .ref 67), (1, .int x1), (2, .int x2)] [] (g_X1_put e (Int32.ofInt 1) x1 S) R _
      exact u_ret rfl rfl ⟨rfl, rfl, hD⟩
    · have hD := hD.2 h1
      show u_P L xs m d m_X5_readNumber 9 [(0, .ref 67), (1, .int x1), (2, .int x2)] [] S R _
      refine u_st rfl (fun _ => rfl) ?_
      show u_P L xs m d m_X5_readNumber 10 [(0, .ref 67), (1, .int x1), (2, .int x2)] [.ref 67] S R _
      refine u_cv (rest := []) rfl (by decide) mt_X5_here rfl rfl rfl rfl (Nat.le_of_ble_eq_true rfl) (Nat.le_of_ble_eq_true rfl) (Nat.le_of_ble_eq_true rfl) (fun d' => c_X5_here L xs m d' S R) ?_
      rintro _ _ _ ⟨_, rfl, rfl, rfl, rfl⟩
      refine u_st rfl (fun _ => rfl) ?_
      show u_P L xs m d m_X5_readNumber 15 [(0, .ref 67), (1, .int x1), (2, .int x2)] [.int (Int32.ofInt 48), .int (f_X5_here S)] S R _
      refine u_ic_lt rfl (fun h2 => ?_) (fun h2 => ?_)
      · have hD := hD.1 h2
        show u_P L xs m d m_X5_readNumber 71 [(0, .ref 67), (1, .int x1), (2, .int x2)] [] S R _
        refine u_st rfl (fun _ => rfl) ?_
        show u_P L xs m d m_X5_readNumber 72 [(0, .ref 67), (1, .int x1), (2, .int x2)] [.ref 67] S R _
        refine u_getv rfl rfl rfl hE ?_
        refine u_st rfl (fun _ => rfl) ?_
        refine u_st rfl (fun _ => rfl) ?_
        show u_P L xs m d m_X5_readNumber 77 [(0, .ref 67), (1, .int x1), (2, .int x2)] [.int x1, .int (Int32.ofInt 1), .ref (e + 1)] S R _
        refine u_cv (rest := []) rfl (by decide) mt_X1_put (z_cd0 he) rfl rfl rfl (Nat.le_of_ble_eq_true rfl) (Nat.le_of_ble_eq_true rfl) (Nat.le_of_ble_eq_true rfl) (fun d' => c_X1_put L xs m d' e he (Int32.ofInt 1) x1 S R) ?_
        rintro _ _ _ ⟨_, rfl, rfl, rfl, rfl⟩
        refine u_st rfl (fun _ => rfl) ?_
        show u_P L xs m d m_X5_readNumber 81 [(0, .ref 67), (1, .int x1), (2, .int x2)] [] (g_X1_put e (Int32.ofInt 1) x1 S) R _
        exact u_ret rfl rfl ⟨rfl, rfl, hD⟩
      · have hD := hD.2 h2
        show u_P L xs m d m_X5_readNumber 18 [(0, .ref 67), (1, .int x1), (2, .int x2)] [] S R _
        refine u_st rfl (fun _ => rfl) ?_
        show u_P L xs m d m_X5_readNumber 19 [(0, .ref 67), (1, .int x1), (2, .int x2)] [.ref 67] S R _
        refine u_cv (rest := []) rfl (by decide) mt_X5_here rfl rfl rfl rfl (Nat.le_of_ble_eq_true rfl) (Nat.le_of_ble_eq_true rfl) (Nat.le_of_ble_eq_true rfl) (fun d' => c_X5_here L xs m d' S R) ?_
        rintro _ _ _ ⟨_, rfl, rfl, rfl, rfl⟩
        refine u_st rfl (fun _ => rfl) ?_
        show u_P L xs m d m_X5_readNumber 24 [(0, .ref 67), (1, .int x1), (2, .int x2)] [.int (Int32.ofInt 57), .int (f_X5_here S)] S R _
        refine u_ic_gt rfl (fun h3 => ?_) (fun h3 => ?_)
        · have hD := hD.1 h3
          show u_P L xs m d m_X5_readNumber 71 [(0, .ref 67), (1, .int x1), (2, .int x2)] [] S R _
          refine u_st rfl (fun _ => rfl) ?_
          show u_P L xs m d m_X5_readNumber 72 [(0, .ref 67), (1, .int x1), (2, .int x2)] [.ref 67] S R _
          refine u_getv rfl rfl rfl hE ?_
          refine u_st rfl (fun _ => rfl) ?_
          refine u_st rfl (fun _ => rfl) ?_
          show u_P L xs m d m_X5_readNumber 77 [(0, .ref 67), (1, .int x1), (2, .int x2)] [.int x1, .int (Int32.ofInt 1), .ref (e + 1)] S R _
          refine u_cv (rest := []) rfl (by decide) mt_X1_put (z_cd0 he) rfl rfl rfl (Nat.le_of_ble_eq_true rfl) (Nat.le_of_ble_eq_true rfl) (Nat.le_of_ble_eq_true rfl) (fun d' => c_X1_put L xs m d' e he (Int32.ofInt 1) x1 S R) ?_
          rintro _ _ _ ⟨_, rfl, rfl, rfl, rfl⟩
          refine u_st rfl (fun _ => rfl) ?_
          show u_P L xs m d m_X5_readNumber 81 [(0, .ref 67), (1, .int x1), (2, .int x2)] [] (g_X1_put e (Int32.ofInt 1) x1 S) R _
          exact u_ret rfl rfl ⟨rfl, rfl, hD⟩
        · have hD := hD.2 h3
          show u_P L xs m d m_X5_readNumber 27 [(0, .ref 67), (1, .int x1), (2, .int x2)] [] S R _
          refine u_st rfl (fun _ => rfl) ?_
          refine u_st rfl (fun _ => rfl) ?_
          show u_P L xs m d m_X5_readNumber 29 [(0, .ref 67), (1, .int x1), (2, .int x2)] [.int (Int32.ofInt 5), .int x2] S R _
          refine u_ic_ne rfl (fun h4 => ?_) (fun h4 => ?_)
          · have hD := hD.1 h4
            show u_P L xs m d m_X5_readNumber 42 [(0, .ref 67), (1, .int x1), (2, .int x2)] [] S R _
            refine u_st rfl (fun _ => rfl) ?_
            refine u_st rfl (fun _ => rfl) ?_
            refine u_st rfl (fun _ => rfl) ?_
            refine u_st rfl (fun _ => rfl) ?_
            show u_P L xs m d m_X5_readNumber 47 [(0, .ref 67), (1, .int x1), (2, .int x2)] [.ref 67, .int ((Int32.ofInt 10) * x1)] S R _
            refine u_cv (rest := [.int ((Int32.ofInt 10) * x1)]) rfl (by decide) mt_X5_here rfl rfl rfl rfl (Nat.le_of_ble_eq_true rfl) (Nat.le_of_ble_eq_true rfl) (Nat.le_of_ble_eq_true rfl) (fun d' => c_X5_here L xs m d' S R) ?_
            rintro _ _ _ ⟨_, rfl, rfl, rfl, rfl⟩
            refine u_st rfl (fun _ => rfl) ?_
            refine u_st rfl (fun _ => rfl) ?_
            refine u_st rfl (fun _ => rfl) ?_
            refine u_st rfl (fun _ => rfl) ?_
            refine u_st rfl (fun _ => rfl) ?_
            refine u_st rfl (fun _ => rfl) ?_
            show u_P L xs m d m_X5_readNumber 57 [(1, .int ((((Int32.ofInt 10) * x1) + (f_X5_here S)) - (Int32.ofInt 48))), (0, .ref 67), (2, .int x2)] [.ref 67, .ref 67] S R _
            refine u_getE (v := S 66 4) rfl rfl rfl rfl ?_
            refine u_st rfl (fun _ => rfl) ?_
            refine u_st rfl (fun _ => rfl) ?_
            show u_P L xs m d m_X5_readNumber 62 [(1, .int ((((Int32.ofInt 10) * x1) + (f_X5_here S)) - (Int32.ofInt 48))), (0, .ref 67), (2, .int x2)] [.int ((S 66 4) + (Int32.ofInt 1)), .ref 67] S R _
            refine u_put rfl rfl rfl ?_
            refine u_st rfl (fun _ => rfl) ?_
            refine u_st rfl (fun _ => rfl) ?_
            refine u_lc (b := [(0, .ref 67), (1, .int ((((Int32.ofInt 10) * x1) + (f_X5_here S)) - (Int32.ofInt 48))), (2, .int (x2 + (Int32.ofInt 1)))]) (show ([2, 1, 0] : List Nat).Nodup by decide) (show ([0, 1, 2] : List Nat).Nodup by decide) (fun i => match i with | 0 => rfl | 1 => rfl | 2 => rfl | _ + 3 => rfl) ?_
            exact (ih m hm) d ((((Int32.ofInt 10) * x1) + (f_X5_here S)) - (Int32.ofInt 48)) (x2 + (Int32.ofInt 1)) (z_s S 66 4 ((S 66 4) + (Int32.ofInt 1))) hD
          · have hD := hD.2 h4
            show u_P L xs m d m_X5_readNumber 32 [(0, .ref 67), (1, .int x1), (2, .int x2)] [] S R _
            refine u_st rfl (fun _ => rfl) ?_
            refine u_st rfl (fun _ => rfl) ?_
            refine u_st rfl (fun _ => rfl) ?_
            show u_P L xs m d m_X5_readNumber 35 [(0, .ref 67), (1, .int x1), (2, .int x2)] [.ref 67, .int (Int32.ofInt 2), .ref 67] S R _
            refine u_getE (v := S 66 4) rfl rfl rfl rfl ?_
            show u_P L xs m d m_X5_readNumber 38 [(0, .ref 67), (1, .int x1), (2, .int x2)] [.int (S 66 4), .int (Int32.ofInt 2), .ref 67] S R _
            refine u_cv (rest := []) rfl (by decide) mt_X5_fail rfl rfl rfl rfl (Nat.le_of_ble_eq_true rfl) (Nat.le_of_ble_eq_true rfl) (Nat.le_of_ble_eq_true rfl) (fun d' => c_X5_fail L xs m d' (Int32.ofInt 2) (S 66 4) S R) ?_
            rintro _ _ _ ⟨rfl, rfl, rfl⟩
            show u_P L xs m d m_X5_readNumber 41 [(0, .ref 67), (1, .int x1), (2, .int x2)] [] (g_X5_fail (Int32.ofInt 2) (S 66 4) S) R _
            exact u_ret rfl rfl ⟨rfl, rfl, hD⟩
set_option maxRecDepth 4000 in
theorem w_X5_readNumber (L : Nat) (xs : Nat → Int32) {R : v_Rf} {e : Nat} (hE : R 66 1 = some (e + 1)) (he : z_cd e) (H4 : Int32 → Int32 → v_Sf → Prop) (K : v_Sf → Prop) (k4 : ∀ (x1 : Int32) (x2 : Int32) (S : v_Sf), H4 x1 x2 S → D_X5_readNumber_4 e H4 K x1 x2 S) (n d : Nat) (S : v_Sf) (hD : D_X5_readNumber e H4 K S) : u_P L xs n d m_X5_readNumber 0 (lv_args 0 [.ref 67]) [] S R (z_V R K) := by
  unfold D_X5_readNumber at hD
  show u_P L xs n d m_X5_readNumber 0 [(0, .ref 67)] [] S R _
  refine u_st rfl (fun _ => rfl) ?_
  refine u_st rfl (fun _ => rfl) ?_
  refine u_st rfl (fun _ => rfl) ?_
  refine u_st rfl (fun _ => rfl) ?_
  refine u_lc (b := [(0, .ref 67), (1, .int (Int32.ofInt 0)), (2, .int (Int32.ofInt 0))]) (show ([2, 1, 0] : List Nat).Nodup by decide) (show ([0, 1, 2] : List Nat).Nodup by decide) (fun i => match i with | 0 => rfl | 1 => rfl | 2 => rfl | _ + 3 => rfl) ?_
  exact (hd_X5_readNumber L xs hE he H4 K k4 n) d (Int32.ofInt 0) (Int32.ofInt 0) S hD
noncomputable def r_X5_readNumber_4 (e : Nat) : Nat → Nat → Int32 → v_Sf → v_Sf
  | 0, k4, x1, S => g_X1_put e (Int32.ofInt 1) x1 S
  | r + 1, k4, x1, S => (if (f_X5_here S) < (Int32.ofInt 48) then g_X1_put e (Int32.ofInt 1) x1 S else (if (Int32.ofInt 57) < (f_X5_here S) then g_X1_put e (Int32.ofInt 1) x1 S else (if ¬ (z_i k4) = (Int32.ofInt 5) then r_X5_readNumber_4 e r (k4 + 1) ((((Int32.ofInt 10) * x1) + (f_X5_here S)) - (Int32.ofInt 48)) (z_s S 66 4 ((S 66 4) + (Int32.ofInt 1))) else g_X5_fail (Int32.ofInt 2) (S 66 4) S)))
noncomputable def F_X5_readNumber (e : Nat) (S : v_Sf) : v_Sf := r_X5_readNumber_4 e (6 - 0) 0 (Int32.ofInt 0) S
noncomputable def g_X5_readNumber (e : Nat) (S : v_Sf) : v_Sf := F_X5_readNumber e S
theorem c_X5_readNumber (L : Nat) (xs : Nat → Int32) (n d : Nat) {R : v_Rf} {e : Nat} (hE : R 66 1 = some (e + 1)) (he : z_cd e) (S : v_Sf) : u_P L xs n d m_X5_readNumber 0 (lv_args 0 [.ref 67]) [] S R (z_V R (fun S1 => g_X5_readNumber e S = S1)) := by
  refine w_X5_readNumber L xs hE he (fun y1 y2 T => ∃ (k4 : Nat), k4 ≤ 6 ∧ z_i k4 = y2 ∧ r_X5_readNumber_4 e (6 - k4) k4 y1 T = F_X5_readNumber e S) (fun S1 => g_X5_readNumber e S = S1) ?_ n d S ?_
  · rintro x1 _ S1 ⟨k4, hkk, rfl, e⟩
    unfold D_X5_readNumber_4
    rcases Nat.lt_or_ge k4 (6) with hk | hk
    · rw [show 6 - k4 = (6 - (k4 + 1)) + 1 by omega, r_X5_readNumber_4] at e
      refine ⟨fun q1 => ?_, fun q1 => ?_⟩
      · exact absurd hk (Nat.not_lt.mpr (z_leC (B := 5) q1 (by decide) (by omega)))
      · refine ⟨fun q2 => ?_, fun q2 => ?_⟩
        · rw [if_pos q2] at e
          exact e.symm
        · refine ⟨fun q3 => ?_, fun q3 => ?_⟩
          · rw [if_neg q2, if_pos q3] at e
            exact e.symm
          · refine ⟨fun q4 => ?_, fun q4 => ?_⟩
            · rw [if_neg q2, if_neg q3, if_pos q4] at e
              exact ⟨(k4 + 1), by omega, (z_i1 k4).symm, e⟩
            · rw [if_neg q2, if_neg q3, if_neg q4] at e
              exact e.symm
    · rw [show 6 - k4 = 0 by omega, r_X5_readNumber_4] at e
      refine ⟨fun q5 => ?_, fun q5 => ?_⟩
      · exact e.symm
      · exact absurd hk (Nat.not_le.mpr (z_ltC (B := 5) q5 (by decide) (by omega)))
  · unfold D_X5_readNumber
    have e : r_X5_readNumber_4 e (6 - 0) 0 (Int32.ofInt 0) S = F_X5_readNumber e S := by rw [F_X5_readNumber]
    exact ⟨0, by omega, rfl, e⟩
noncomputable def D_readFactorF (pr : Int32 → Prop) (e : Nat) (φS : Int32 → v_Sf → v_Sf) (a : Int32)  (K : v_Sf → Prop) (S : v_Sf) : Prop := ((0 ≤ (f_X5_here S) → (((¬ (f_X5_here S) = (Int32.ofInt 91)) → (((f_X5_here S) < (Int32.ofInt 48) → (((g_ixo (f_X5_here S)) < 0 → K (g_X5_fail (Int32.ofInt 1) (S 66 4) S)) ∧ (¬ ((g_ixo (f_X5_here S)) < 0) → K (z_s (g_X1_put e (Int32.ofInt 2) (g_ixo (f_X5_here S)) S) 66 4 (((g_X1_put e (Int32.ofInt 2) (g_ixo (f_X5_here S)) S) 66 4) + (Int32.ofInt 1)))))) ∧ (¬ ((f_X5_here S) < (Int32.ofInt 48)) → (((Int32.ofInt 57) < (f_X5_here S) → (((g_ixo (f_X5_here S)) < 0 → K (g_X5_fail (Int32.ofInt 1) (S 66 4) S)) ∧ (¬ ((g_ixo (f_X5_here S)) < 0) → K (z_s (g_X1_put e (Int32.ofInt 2) (g_ixo (f_X5_here S)) S) 66 4 (((g_X1_put e (Int32.ofInt 2) (g_ixo (f_X5_here S)) S) 66 4) + (Int32.ofInt 1)))))) ∧ (¬ ((Int32.ofInt 57) < (f_X5_here S)) → K (g_X5_readNumber e S)))))) ∧ (¬ (¬ (f_X5_here S) = (Int32.ofInt 91)) → (((f_X5_opens a S) = 0 → K (g_X5_opens a S)) ∧ (¬ ((f_X5_opens a S) = 0) → (pr (a + (Int32.ofInt 1)) ∧ K (g_X5_expect (Int32.ofInt 93) (φS (a + (Int32.ofInt 1)) (g_X5_opens a S))))))))) ∧ (¬ (0 ≤ (f_X5_here S)) → (((¬ (f_X5_here S) = (Int32.ofInt 91)) → (((f_X5_here S) < (Int32.ofInt 48) → K (g_X5_fail (Int32.ofInt 1) (S 66 4) S)) ∧ (¬ ((f_X5_here S) < (Int32.ofInt 48)) → (((Int32.ofInt 57) < (f_X5_here S) → K (g_X5_fail (Int32.ofInt 1) (S 66 4) S)) ∧ (¬ ((Int32.ofInt 57) < (f_X5_here S)) → K (g_X5_readNumber e S)))))) ∧ (¬ (¬ (f_X5_here S) = (Int32.ofInt 91)) → (((f_X5_opens a S) = 0 → K (g_X5_opens a S)) ∧ (¬ ((f_X5_opens a S) = 0) → (pr (a + (Int32.ofInt 1)) ∧ K (g_X5_expect (Int32.ofInt 93) (φS (a + (Int32.ofInt 1)) (g_X5_opens a S))))))))))
set_option maxRecDepth 4000 in
theorem w_readFactorF (L : Nat) (xs : Nat → Int32) {R : v_Rf} {e : Nat} (hE : R 66 1 = some (e + 1)) (he : z_cd e) (pr : Int32 → Prop) (φS : Int32 → v_Sf → v_Sf) (hφS : ∀ (n d : Nat) (i : Int32) (S : v_Sf), pr i → u_P L xs n d m_X5_readSum 0 (lv_args 0 [.ref 67, .int i]) [] S R (z_V R (fun S1 => φS i S = S1))) (a : Int32)  (K : v_Sf → Prop)  (n d : Nat) (S : v_Sf) (hD : D_readFactorF pr e φS a K S) : u_P L xs n d m_X5_readFactor 0 (lv_args 0 [.ref 67, .int a]) [] S R (z_V R K) := by
  unfold D_readFactorF at hD
  show u_P L xs n d m_X5_readFactor 0 [(0, .ref 67), (1, .int a)] [] S R _
  refine u_st rfl (fun _ => rfl) ?_
  show u_P L xs n d m_X5_readFactor 1 [(0, .ref 67), (1, .int a)] [.ref 67] S R _
  refine u_cv (rest := []) rfl (by decide) mt_X5_here rfl rfl rfl rfl (Nat.le_of_ble_eq_true rfl) (Nat.le_of_ble_eq_true rfl) (Nat.le_of_ble_eq_true rfl) (fun d' => c_X5_here L xs n d' S R) ?_
  rintro _ _ _ ⟨_, rfl, rfl, rfl, rfl⟩
  refine u_st rfl (fun _ => rfl) ?_
  refine u_st rfl (fun _ => rfl) ?_
  show u_P L xs n d m_X5_readFactor 6 [(2, .int (f_X5_here S)), (0, .ref 67), (1, .int a)] [.int (f_X5_here S)] S R _
  refine u_if_ge rfl (fun h1 => ?_) (fun h1 => ?_)
  · have hD := hD.1 h1
    show u_P L xs n d m_X5_readFactor 13 [(2, .int (f_X5_here S)), (0, .ref 67), (1, .int a)] [] S R _
    refine u_mac (v := f_X5_here S) rfl ?_
    refine u_st rfl (fun _ => rfl) ?_
    refine u_st rfl (fun _ => rfl) ?_
    refine u_st rfl (fun _ => rfl) ?_
    show u_P L xs n d m_X5_readFactor 24 [(3, .int (g_ixo (f_X5_here S))), (2, .int (f_X5_here S)), (0, .ref 67), (1, .int a)] [.int (Int32.ofInt 91), .int (f_X5_here S)] S R _
    refine u_ic_ne rfl (fun h2 => ?_) (fun h2 => ?_)
    · have hD := hD.1 h2
      show u_P L xs n d m_X5_readFactor 51 [(3, .int (g_ixo (f_X5_here S))), (2, .int (f_X5_here S)), (0, .ref 67), (1, .int a)] [] S R _
      refine u_st rfl (fun _ => rfl) ?_
      refine u_st rfl (fun _ => rfl) ?_
      show u_P L xs n d m_X5_readFactor 54 [(3, .int (g_ixo (f_X5_here S))), (2, .int (f_X5_here S)), (0, .ref 67), (1, .int a)] [.int (Int32.ofInt 48), .int (f_X5_here S)] S R _
      refine u_ic_lt rfl (fun h3 => ?_) (fun h3 => ?_)
      · have hD := hD.1 h3
        show u_P L xs n d m_X5_readFactor 70 [(3, .int (g_ixo (f_X5_here S))), (2, .int (f_X5_here S)), (0, .ref 67), (1, .int a)] [] S R _
        refine u_st rfl (fun _ => rfl) ?_
        show u_P L xs n d m_X5_readFactor 71 [(3, .int (g_ixo (f_X5_here S))), (2, .int (f_X5_here S)), (0, .ref 67), (1, .int a)] [.int (g_ixo (f_X5_here S))] S R _
        refine u_if_lt rfl (fun h4 => ?_) (fun h4 => ?_)
        · have hD := hD.1 h4
          show u_P L xs n d m_X5_readFactor 97 [(3, .int (g_ixo (f_X5_here S))), (2, .int (f_X5_here S)), (0, .ref 67), (1, .int a)] [] S R _
          refine u_st rfl (fun _ => rfl) ?_
          refine u_st rfl (fun _ => rfl) ?_
          refine u_st rfl (fun _ => rfl) ?_
          show u_P L xs n d m_X5_readFactor 100 [(3, .int (g_ixo (f_X5_here S))), (2, .int (f_X5_here S)), (0, .ref 67), (1, .int a)] [.ref 67, .int (Int32.ofInt 1), .ref 67] S R _
          refine u_getE (v := S 66 4) rfl rfl rfl rfl ?_
          show u_P L xs n d m_X5_readFactor 103 [(3, .int (g_ixo (f_X5_here S))), (2, .int (f_X5_here S)), (0, .ref 67), (1, .int a)] [.int (S 66 4), .int (Int32.ofInt 1), .ref 67] S R _
          refine u_cv (rest := []) rfl (by decide) mt_X5_fail rfl rfl rfl rfl (Nat.le_of_ble_eq_true rfl) (Nat.le_of_ble_eq_true rfl) (Nat.le_of_ble_eq_true rfl) (fun d' => c_X5_fail L xs n d' (Int32.ofInt 1) (S 66 4) S R) ?_
          rintro _ _ _ ⟨rfl, rfl, rfl⟩
          show u_P L xs n d m_X5_readFactor 106 [(3, .int (g_ixo (f_X5_here S))), (2, .int (f_X5_here S)), (0, .ref 67), (1, .int a)] [] (g_X5_fail (Int32.ofInt 1) (S 66 4) S) R _
          exact u_ret rfl rfl ⟨rfl, rfl, hD⟩
        · have hD := hD.2 h4
          show u_P L xs n d m_X5_readFactor 74 [(3, .int (g_ixo (f_X5_here S))), (2, .int (f_X5_here S)), (0, .ref 67), (1, .int a)] [] S R _
          refine u_st rfl (fun _ => rfl) ?_
          show u_P L xs n d m_X5_readFactor 75 [(3, .int (g_ixo (f_X5_here S))), (2, .int (f_X5_here S)), (0, .ref 67), (1, .int a)] [.ref 67] S R _
          refine u_getv rfl rfl rfl hE ?_
          refine u_st rfl (fun _ => rfl) ?_
          refine u_st rfl (fun _ => rfl) ?_
          show u_P L xs n d m_X5_readFactor 80 [(3, .int (g_ixo (f_X5_here S))), (2, .int (f_X5_here S)), (0, .ref 67), (1, .int a)] [.int (g_ixo (f_X5_here S)), .int (Int32.ofInt 2), .ref (e + 1)] S R _
          refine u_cv (rest := []) rfl (by decide) mt_X1_put (z_cd0 he) rfl rfl rfl (Nat.le_of_ble_eq_true rfl) (Nat.le_of_ble_eq_true rfl) (Nat.le_of_ble_eq_true rfl) (fun d' => c_X1_put L xs n d' e he (Int32.ofInt 2) (g_ixo (f_X5_here S)) S R) ?_
          rintro _ _ _ ⟨_, rfl, rfl, rfl, rfl⟩
          refine u_st rfl (fun _ => rfl) ?_
          refine u_st rfl (fun _ => rfl) ?_
          refine u_st rfl (fun _ => rfl) ?_
          show u_P L xs n d m_X5_readFactor 86 [(3, .int (g_ixo (f_X5_here S))), (2, .int (f_X5_here S)), (0, .ref 67), (1, .int a)] [.ref 67, .ref 67] (g_X1_put e (Int32.ofInt 2) (g_ixo (f_X5_here S)) S) R _
          refine u_getE (v := (g_X1_put e (Int32.ofInt 2) (g_ixo (f_X5_here S)) S) 66 4) rfl rfl rfl rfl ?_
          refine u_st rfl (fun _ => rfl) ?_
          refine u_st rfl (fun _ => rfl) ?_
          show u_P L xs n d m_X5_readFactor 91 [(3, .int (g_ixo (f_X5_here S))), (2, .int (f_X5_here S)), (0, .ref 67), (1, .int a)] [.int (((g_X1_put e (Int32.ofInt 2) (g_ixo (f_X5_here S)) S) 66 4) + (Int32.ofInt 1)), .ref 67] (g_X1_put e (Int32.ofInt 2) (g_ixo (f_X5_here S)) S) R _
          refine u_put rfl rfl rfl ?_
          refine u_st rfl (fun _ => rfl) ?_
          show u_P L xs n d m_X5_readFactor 106 [(3, .int (g_ixo (f_X5_here S))), (2, .int (f_X5_here S)), (0, .ref 67), (1, .int a)] [] (z_s (g_X1_put e (Int32.ofInt 2) (g_ixo (f_X5_here S)) S) 66 4 (((g_X1_put e (Int32.ofInt 2) (g_ixo (f_X5_here S)) S) 66 4) + (Int32.ofInt 1))) R _
          exact u_ret rfl rfl ⟨rfl, rfl, hD⟩
      · have hD := hD.2 h3
        show u_P L xs n d m_X5_readFactor 57 [(3, .int (g_ixo (f_X5_here S))), (2, .int (f_X5_here S)), (0, .ref 67), (1, .int a)] [] S R _
        refine u_st rfl (fun _ => rfl) ?_
        refine u_st rfl (fun _ => rfl) ?_
        show u_P L xs n d m_X5_readFactor 60 [(3, .int (g_ixo (f_X5_here S))), (2, .int (f_X5_here S)), (0, .ref 67), (1, .int a)] [.int (Int32.ofInt 57), .int (f_X5_here S)] S R _
        refine u_ic_gt rfl (fun h5 => ?_) (fun h5 => ?_)
        · have hD := hD.1 h5
          show u_P L xs n d m_X5_readFactor 70 [(3, .int (g_ixo (f_X5_here S))), (2, .int (f_X5_here S)), (0, .ref 67), (1, .int a)] [] S R _
          refine u_st rfl (fun _ => rfl) ?_
          show u_P L xs n d m_X5_readFactor 71 [(3, .int (g_ixo (f_X5_here S))), (2, .int (f_X5_here S)), (0, .ref 67), (1, .int a)] [.int (g_ixo (f_X5_here S))] S R _
          refine u_if_lt rfl (fun h6 => ?_) (fun h6 => ?_)
          · have hD := hD.1 h6
            show u_P L xs n d m_X5_readFactor 97 [(3, .int (g_ixo (f_X5_here S))), (2, .int (f_X5_here S)), (0, .ref 67), (1, .int a)] [] S R _
            refine u_st rfl (fun _ => rfl) ?_
            refine u_st rfl (fun _ => rfl) ?_
            refine u_st rfl (fun _ => rfl) ?_
            show u_P L xs n d m_X5_readFactor 100 [(3, .int (g_ixo (f_X5_here S))), (2, .int (f_X5_here S)), (0, .ref 67), (1, .int a)] [.ref 67, .int (Int32.ofInt 1), .ref 67] S R _
            refine u_getE (v := S 66 4) rfl rfl rfl rfl ?_
            show u_P L xs n d m_X5_readFactor 103 [(3, .int (g_ixo (f_X5_here S))), (2, .int (f_X5_here S)), (0, .ref 67), (1, .int a)] [.int (S 66 4), .int (Int32.ofInt 1), .ref 67] S R _
            refine u_cv (rest := []) rfl (by decide) mt_X5_fail rfl rfl rfl rfl (Nat.le_of_ble_eq_true rfl) (Nat.le_of_ble_eq_true rfl) (Nat.le_of_ble_eq_true rfl) (fun d' => c_X5_fail L xs n d' (Int32.ofInt 1) (S 66 4) S R) ?_
            rintro _ _ _ ⟨rfl, rfl, rfl⟩
            show u_P L xs n d m_X5_readFactor 106 [(3, .int (g_ixo (f_X5_here S))), (2, .int (f_X5_here S)), (0, .ref 67), (1, .int a)] [] (g_X5_fail (Int32.ofInt 1) (S 66 4) S) R _
            exact u_ret rfl rfl ⟨rfl, rfl, hD⟩
          · have hD := hD.2 h6
            show u_P L xs n d m_X5_readFactor 74 [(3, .int (g_ixo (f_X5_here S))), (2, .int (f_X5_here S)), (0, .ref 67), (1, .int a)] [] S R _
            refine u_st rfl (fun _ => rfl) ?_
            show u_P L xs n d m_X5_readFactor 75 [(3, .int (g_ixo (f_X5_here S))), (2, .int (f_X5_here S)), (0, .ref 67), (1, .int a)] [.ref 67] S R _
            refine u_getv rfl rfl rfl hE ?_
            refine u_st rfl (fun _ => rfl) ?_
            refine u_st rfl (fun _ => rfl) ?_
            show u_P L xs n d m_X5_readFactor 80 [(3, .int (g_ixo (f_X5_here S))), (2, .int (f_X5_here S)), (0, .ref 67), (1, .int a)] [.int (g_ixo (f_X5_here S)), .int (Int32.ofInt 2), .ref (e + 1)] S R _
            refine u_cv (rest := []) rfl (by decide) mt_X1_put (z_cd0 he) rfl rfl rfl (Nat.le_of_ble_eq_true rfl) (Nat.le_of_ble_eq_true rfl) (Nat.le_of_ble_eq_true rfl) (fun d' => c_X1_put L xs n d' e he (Int32.ofInt 2) (g_ixo (f_X5_here S)) S R) ?_
            rintro _ _ _ ⟨_, rfl, rfl, rfl, rfl⟩
            refine u_st rfl (fun _ => rfl) ?_
            refine u_st rfl (fun _ => rfl) ?_
            refine u_st rfl (fun _ => rfl) ?_
            show u_P L xs n d m_X5_readFactor 86 [(3, .int (g_ixo (f_X5_here S))), (2, .int (f_X5_here S)), (0, .ref 67), (1, .int a)] [.ref 67, .ref 67] (g_X1_put e (Int32.ofInt 2) (g_ixo (f_X5_here S)) S) R _
            refine u_getE (v := (g_X1_put e (Int32.ofInt 2) (g_ixo (f_X5_here S)) S) 66 4) rfl rfl rfl rfl ?_
            refine u_st rfl (fun _ => rfl) ?_
            refine u_st rfl (fun _ => rfl) ?_
            show u_P L xs n d m_X5_readFactor 91 [(3, .int (g_ixo (f_X5_here S))), (2, .int (f_X5_here S)), (0, .ref 67), (1, .int a)] [.int (((g_X1_put e (Int32.ofInt 2) (g_ixo (f_X5_here S)) S) 66 4) + (Int32.ofInt 1)), .ref 67] (g_X1_put e (Int32.ofInt 2) (g_ixo (f_X5_here S)) S) R _
            refine u_put rfl rfl rfl ?_
            refine u_st rfl (fun _ => rfl) ?_
            show u_P L xs n d m_X5_readFactor 106 [(3, .int (g_ixo (f_X5_here S))), (2, .int (f_X5_here S)), (0, .ref 67), (1, .int a)] [] (z_s (g_X1_put e (Int32.ofInt 2) (g_ixo (f_X5_here S)) S) 66 4 (((g_X1_put e (Int32.ofInt 2) (g_ixo (f_X5_here S)) S) 66 4) + (Int32.ofInt 1))) R _
            exact u_ret rfl rfl ⟨rfl, rfl, hD⟩
        · have hD := hD.2 h5
          show u_P L xs n d m_X5_readFactor 63 [(3, .int (g_ixo (f_X5_here S))), (2, .int (f_X5_here S)), (0, .ref 67), (1, .int a)] [] S R _
          refine u_st rfl (fun _ => rfl) ?_
          show u_P L xs n d m_X5_readFactor 64 [(3, .int (g_ixo (f_X5_here S))), (2, .int (f_X5_here S)), (0, .ref 67), (1, .int a)] [.ref 67] S R _
          refine u_cv (rest := []) rfl (by decide) mt_X5_readNumber rfl rfl rfl rfl (Nat.le_of_ble_eq_true rfl) (Nat.le_of_ble_eq_true rfl) (Nat.le_of_ble_eq_true rfl) (fun d' => c_X5_readNumber L xs n d' hE he S) ?_
          rintro _ _ _ ⟨rfl, rfl, rfl⟩
          refine u_st rfl (fun _ => rfl) ?_
          show u_P L xs n d m_X5_readFactor 106 [(3, .int (g_ixo (f_X5_here S))), (2, .int (f_X5_here S)), (0, .ref 67), (1, .int a)] [] (g_X5_readNumber e S) R _
          exact u_ret rfl rfl ⟨rfl, rfl, hD⟩
    · have hD := hD.2 h2
      show u_P L xs n d m_X5_readFactor 27 [(3, .int (g_ixo (f_X5_here S))), (2, .int (f_X5_here S)), (0, .ref 67), (1, .int a)] [] S R _
      refine u_st rfl (fun _ => rfl) ?_
      refine u_st rfl (fun _ => rfl) ?_
      show u_P L xs n d m_X5_readFactor 29 [(3, .int (g_ixo (f_X5_here S))), (2, .int (f_X5_here S)), (0, .ref 67), (1, .int a)] [.int a, .ref 67] S R _
      refine u_cv (rest := []) rfl (by decide) mt_X5_opens rfl rfl rfl rfl (Nat.le_of_ble_eq_true rfl) (Nat.le_of_ble_eq_true rfl) (Nat.le_of_ble_eq_true rfl) (fun d' => c_X5_opens L xs n d' a S R) ?_
      rintro _ _ _ ⟨_, rfl, rfl, rfl, rfl⟩
      show u_P L xs n d m_X5_readFactor 32 [(3, .int (g_ixo (f_X5_here S))), (2, .int (f_X5_here S)), (0, .ref 67), (1, .int a)] [.int (f_X5_opens a S)] (g_X5_opens a S) R _
      refine u_if_eq rfl (fun h7 => ?_) (fun h7 => ?_)
      · have hD := hD.1 h7
        show u_P L xs n d m_X5_readFactor 106 [(3, .int (g_ixo (f_X5_here S))), (2, .int (f_X5_here S)), (0, .ref 67), (1, .int a)] [] (g_X5_opens a S) R _
        exact u_ret rfl rfl ⟨rfl, rfl, hD⟩
      · have hD := hD.2 h7
        show u_P L xs n d m_X5_readFactor 35 [(3, .int (g_ixo (f_X5_here S))), (2, .int (f_X5_here S)), (0, .ref 67), (1, .int a)] [] (g_X5_opens a S) R _
        refine u_st rfl (fun _ => rfl) ?_
        refine u_st rfl (fun _ => rfl) ?_
        refine u_st rfl (fun _ => rfl) ?_
        refine u_st rfl (fun _ => rfl) ?_
        show u_P L xs n d m_X5_readFactor 39 [(3, .int (g_ixo (f_X5_here S))), (2, .int (f_X5_here S)), (0, .ref 67), (1, .int a)] [.int (a + (Int32.ofInt 1)), .ref 67] (g_X5_opens a S) R _
        refine u_cv (rest := []) rfl (by decide) mt_X5_readSum rfl rfl rfl rfl (Nat.le_of_ble_eq_true rfl) (Nat.le_of_ble_eq_true rfl) (Nat.le_of_ble_eq_true rfl) (fun d' => hφS n d' (a + (Int32.ofInt 1)) (g_X5_opens a S) hD.1) ?_
        rintro _ _ _ ⟨rfl, rfl, rfl⟩
        have hD := hD.2
        show u_P L xs n d m_X5_readFactor 42 [(3, .int (g_ixo (f_X5_here S))), (2, .int (f_X5_here S)), (0, .ref 67), (1, .int a)] [] (φS (a + (Int32.ofInt 1)) (g_X5_opens a S)) R _
        refine u_st rfl (fun _ => rfl) ?_
        refine u_st rfl (fun _ => rfl) ?_
        show u_P L xs n d m_X5_readFactor 45 [(3, .int (g_ixo (f_X5_here S))), (2, .int (f_X5_here S)), (0, .ref 67), (1, .int a)] [.int (Int32.ofInt 93), .ref 67] (φS (a + (Int32.ofInt 1)) (g_X5_opens a S)) R _
        refine u_cv (rest := []) rfl (by decide) mt_X5_expect rfl rfl rfl rfl (Nat.le_of_ble_eq_true rfl) (Nat.le_of_ble_eq_true rfl) (Nat.le_of_ble_eq_true rfl) (fun d' => c_X5_expect L xs n d' (Int32.ofInt 93) (φS (a + (Int32.ofInt 1)) (g_X5_opens a S)) R) ?_
        rintro _ _ _ ⟨rfl, rfl, rfl⟩
        refine u_st rfl (fun _ => rfl) ?_
        show u_P L xs n d m_X5_readFactor 106 [(3, .int (g_ixo (f_X5_here S))), (2, .int (f_X5_here S)), (0, .ref 67), (1, .int a)] [] (g_X5_expect (Int32.ofInt 93) (φS (a + (Int32.ofInt 1)) (g_X5_opens a S))) R _
        exact u_ret rfl rfl ⟨rfl, rfl, hD⟩
  · have hD := hD.2 h1
    show u_P L xs n d m_X5_readFactor 9 [(2, .int (f_X5_here S)), (0, .ref 67), (1, .int a)] [] S R _
    refine u_st rfl (fun _ => rfl) ?_
    refine u_st rfl (fun _ => rfl) ?_
    refine u_st rfl (fun _ => rfl) ?_
    refine u_st rfl (fun _ => rfl) ?_
    refine u_st rfl (fun _ => rfl) ?_
    show u_P L xs n d m_X5_readFactor 24 [(3, .int (Int32.ofInt (-1))), (2, .int (f_X5_here S)), (0, .ref 67), (1, .int a)] [.int (Int32.ofInt 91), .int (f_X5_here S)] S R _
    refine u_ic_ne rfl (fun h8 => ?_) (fun h8 => ?_)
    · have hD := hD.1 h8
      show u_P L xs n d m_X5_readFactor 51 [(3, .int (Int32.ofInt (-1))), (2, .int (f_X5_here S)), (0, .ref 67), (1, .int a)] [] S R _
      refine u_st rfl (fun _ => rfl) ?_
      refine u_st rfl (fun _ => rfl) ?_
      show u_P L xs n d m_X5_readFactor 54 [(3, .int (Int32.ofInt (-1))), (2, .int (f_X5_here S)), (0, .ref 67), (1, .int a)] [.int (Int32.ofInt 48), .int (f_X5_here S)] S R _
      refine u_ic_lt rfl (fun h9 => ?_) (fun h9 => ?_)
      · have hD := hD.1 h9
        show u_P L xs n d m_X5_readFactor 70 [(3, .int (Int32.ofInt (-1))), (2, .int (f_X5_here S)), (0, .ref 67), (1, .int a)] [] S R _
        refine u_st rfl (fun _ => rfl) ?_
        show u_P L xs n d m_X5_readFactor 71 [(3, .int (Int32.ofInt (-1))), (2, .int (f_X5_here S)), (0, .ref 67), (1, .int a)] [.int (Int32.ofInt (-1))] S R _
        refine u_st rfl (fun _ => rfl) ?_
        refine u_st rfl (fun _ => rfl) ?_
        refine u_st rfl (fun _ => rfl) ?_
        refine u_st rfl (fun _ => rfl) ?_
        show u_P L xs n d m_X5_readFactor 100 [(3, .int (Int32.ofInt (-1))), (2, .int (f_X5_here S)), (0, .ref 67), (1, .int a)] [.ref 67, .int (Int32.ofInt 1), .ref 67] S R _
        refine u_getE (v := S 66 4) rfl rfl rfl rfl ?_
        show u_P L xs n d m_X5_readFactor 103 [(3, .int (Int32.ofInt (-1))), (2, .int (f_X5_here S)), (0, .ref 67), (1, .int a)] [.int (S 66 4), .int (Int32.ofInt 1), .ref 67] S R _
        refine u_cv (rest := []) rfl (by decide) mt_X5_fail rfl rfl rfl rfl (Nat.le_of_ble_eq_true rfl) (Nat.le_of_ble_eq_true rfl) (Nat.le_of_ble_eq_true rfl) (fun d' => c_X5_fail L xs n d' (Int32.ofInt 1) (S 66 4) S R) ?_
        rintro _ _ _ ⟨rfl, rfl, rfl⟩
        show u_P L xs n d m_X5_readFactor 106 [(3, .int (Int32.ofInt (-1))), (2, .int (f_X5_here S)), (0, .ref 67), (1, .int a)] [] (g_X5_fail (Int32.ofInt 1) (S 66 4) S) R _
        exact u_ret rfl rfl ⟨rfl, rfl, hD⟩
      · have hD := hD.2 h9
        show u_P L xs n d m_X5_readFactor 57 [(3, .int (Int32.ofInt (-1))), (2, .int (f_X5_here S)), (0, .ref 67), (1, .int a)] [] S R _
        refine u_st rfl (fun _ => rfl) ?_
        refine u_st rfl (fun _ => rfl) ?_
        show u_P L xs n d m_X5_readFactor 60 [(3, .int (Int32.ofInt (-1))), (2, .int (f_X5_here S)), (0, .ref 67), (1, .int a)] [.int (Int32.ofInt 57), .int (f_X5_here S)] S R _
        refine u_ic_gt rfl (fun h10 => ?_) (fun h10 => ?_)
        · have hD := hD.1 h10
          show u_P L xs n d m_X5_readFactor 70 [(3, .int (Int32.ofInt (-1))), (2, .int (f_X5_here S)), (0, .ref 67), (1, .int a)] [] S R _
          refine u_st rfl (fun _ => rfl) ?_
          show u_P L xs n d m_X5_readFactor 71 [(3, .int (Int32.ofInt (-1))), (2, .int (f_X5_here S)), (0, .ref 67), (1, .int a)] [.int (Int32.ofInt (-1))] S R _
          refine u_st rfl (fun _ => rfl) ?_
          refine u_st rfl (fun _ => rfl) ?_
          refine u_st rfl (fun _ => rfl) ?_
          refine u_st rfl (fun _ => rfl) ?_
          show u_P L xs n d m_X5_readFactor 100 [(3, .int (Int32.ofInt (-1))), (2, .int (f_X5_here S)), (0, .ref 67), (1, .int a)] [.ref 67, .int (Int32.ofInt 1), .ref 67] S R _
          refine u_getE (v := S 66 4) rfl rfl rfl rfl ?_
          show u_P L xs n d m_X5_readFactor 103 [(3, .int (Int32.ofInt (-1))), (2, .int (f_X5_here S)), (0, .ref 67), (1, .int a)] [.int (S 66 4), .int (Int32.ofInt 1), .ref 67] S R _
          refine u_cv (rest := []) rfl (by decide) mt_X5_fail rfl rfl rfl rfl (Nat.le_of_ble_eq_true rfl) (Nat.le_of_ble_eq_true rfl) (Nat.le_of_ble_eq_true rfl) (fun d' => c_X5_fail L xs n d' (Int32.ofInt 1) (S 66 4) S R) ?_
          rintro _ _ _ ⟨rfl, rfl, rfl⟩
          show u_P L xs n d m_X5_readFactor 106 [(3, .int (Int32.ofInt (-1))), (2, .int (f_X5_here S)), (0, .ref 67), (1, .int a)] [] (g_X5_fail (Int32.ofInt 1) (S 66 4) S) R _
          exact u_ret rfl rfl ⟨rfl, rfl, hD⟩
        · have hD := hD.2 h10
          show u_P L xs n d m_X5_readFactor 63 [(3, .int (Int32.ofInt (-1))), (2, .int (f_X5_here S)), (0, .ref 67), (1, .int a)] [] S R _
          refine u_st rfl (fun _ => rfl) ?_
          show u_P L xs n d m_X5_readFactor 64 [(3, .int (Int32.ofInt (-1))), (2, .int (f_X5_here S)), (0, .ref 67), (1, .int a)] [.ref 67] S R _
          refine u_cv (rest := []) rfl (by decide) mt_X5_readNumber rfl rfl rfl rfl (Nat.le_of_ble_eq_true rfl) (Nat.le_of_ble_eq_true rfl) (Nat.le_of_ble_eq_true rfl) (fun d' => c_X5_readNumber L xs n d' hE he S) ?_
          rintro _ _ _ ⟨rfl, rfl, rfl⟩
          refine u_st rfl (fun _ => rfl) ?_
          show u_P L xs n d m_X5_readFactor 106 [(3, .int (Int32.ofInt (-1))), (2, .int (f_X5_here S)), (0, .ref 67), (1, .int a)] [] (g_X5_readNumber e S) R _
          exact u_ret rfl rfl ⟨rfl, rfl, hD⟩
    · have hD := hD.2 h8
      show u_P L xs n d m_X5_readFactor 27 [(3, .int (Int32.ofInt (-1))), (2, .int (f_X5_here S)), (0, .ref 67), (1, .int a)] [] S R _
      refine u_st rfl (fun _ => rfl) ?_
      refine u_st rfl (fun _ => rfl) ?_
      show u_P L xs n d m_X5_readFactor 29 [(3, .int (Int32.ofInt (-1))), (2, .int (f_X5_here S)), (0, .ref 67), (1, .int a)] [.int a, .ref 67] S R _
      refine u_cv (rest := []) rfl (by decide) mt_X5_opens rfl rfl rfl rfl (Nat.le_of_ble_eq_true rfl) (Nat.le_of_ble_eq_true rfl) (Nat.le_of_ble_eq_true rfl) (fun d' => c_X5_opens L xs n d' a S R) ?_
      rintro _ _ _ ⟨_, rfl, rfl, rfl, rfl⟩
      show u_P L xs n d m_X5_readFactor 32 [(3, .int (Int32.ofInt (-1))), (2, .int (f_X5_here S)), (0, .ref 67), (1, .int a)] [.int (f_X5_opens a S)] (g_X5_opens a S) R _
      refine u_if_eq rfl (fun h11 => ?_) (fun h11 => ?_)
      · have hD := hD.1 h11
        show u_P L xs n d m_X5_readFactor 106 [(3, .int (Int32.ofInt (-1))), (2, .int (f_X5_here S)), (0, .ref 67), (1, .int a)] [] (g_X5_opens a S) R _
        exact u_ret rfl rfl ⟨rfl, rfl, hD⟩
      · have hD := hD.2 h11
        show u_P L xs n d m_X5_readFactor 35 [(3, .int (Int32.ofInt (-1))), (2, .int (f_X5_here S)), (0, .ref 67), (1, .int a)] [] (g_X5_opens a S) R _
        refine u_st rfl (fun _ => rfl) ?_
        refine u_st rfl (fun _ => rfl) ?_
        refine u_st rfl (fun _ => rfl) ?_
        refine u_st rfl (fun _ => rfl) ?_
        show u_P L xs n d m_X5_readFactor 39 [(3, .int (Int32.ofInt (-1))), (2, .int (f_X5_here S)), (0, .ref 67), (1, .int a)] [.int (a + (Int32.ofInt 1)), .ref 67] (g_X5_opens a S) R _
        refine u_cv (rest := []) rfl (by decide) mt_X5_readSum rfl rfl rfl rfl (Nat.le_of_ble_eq_true rfl) (Nat.le_of_ble_eq_true rfl) (Nat.le_of_ble_eq_true rfl) (fun d' => hφS n d' (a + (Int32.ofInt 1)) (g_X5_opens a S) hD.1) ?_
        rintro _ _ _ ⟨rfl, rfl, rfl⟩
        have hD := hD.2
        show u_P L xs n d m_X5_readFactor 42 [(3, .int (Int32.ofInt (-1))), (2, .int (f_X5_here S)), (0, .ref 67), (1, .int a)] [] (φS (a + (Int32.ofInt 1)) (g_X5_opens a S)) R _
        refine u_st rfl (fun _ => rfl) ?_
        refine u_st rfl (fun _ => rfl) ?_
        show u_P L xs n d m_X5_readFactor 45 [(3, .int (Int32.ofInt (-1))), (2, .int (f_X5_here S)), (0, .ref 67), (1, .int a)] [.int (Int32.ofInt 93), .ref 67] (φS (a + (Int32.ofInt 1)) (g_X5_opens a S)) R _
        refine u_cv (rest := []) rfl (by decide) mt_X5_expect rfl rfl rfl rfl (Nat.le_of_ble_eq_true rfl) (Nat.le_of_ble_eq_true rfl) (Nat.le_of_ble_eq_true rfl) (fun d' => c_X5_expect L xs n d' (Int32.ofInt 93) (φS (a + (Int32.ofInt 1)) (g_X5_opens a S)) R) ?_
        rintro _ _ _ ⟨rfl, rfl, rfl⟩
        refine u_st rfl (fun _ => rfl) ?_
        show u_P L xs n d m_X5_readFactor 106 [(3, .int (Int32.ofInt (-1))), (2, .int (f_X5_here S)), (0, .ref 67), (1, .int a)] [] (g_X5_expect (Int32.ofInt 93) (φS (a + (Int32.ofInt 1)) (g_X5_opens a S))) R _
        exact u_ret rfl rfl ⟨rfl, rfl, hD⟩
noncomputable def F_readFactorF (e : Nat) (φS : Int32 → v_Sf → v_Sf) (a : Int32) (S : v_Sf) : v_Sf := (if 0 ≤ (f_X5_here S) then (if ¬ (f_X5_here S) = (Int32.ofInt 91) then (if (f_X5_here S) < (Int32.ofInt 48) then (if (g_ixo (f_X5_here S)) < 0 then g_X5_fail (Int32.ofInt 1) (S 66 4) S else z_s (g_X1_put e (Int32.ofInt 2) (g_ixo (f_X5_here S)) S) 66 4 (((g_X1_put e (Int32.ofInt 2) (g_ixo (f_X5_here S)) S) 66 4) + (Int32.ofInt 1))) else (if (Int32.ofInt 57) < (f_X5_here S) then (if (g_ixo (f_X5_here S)) < 0 then g_X5_fail (Int32.ofInt 1) (S 66 4) S else z_s (g_X1_put e (Int32.ofInt 2) (g_ixo (f_X5_here S)) S) 66 4 (((g_X1_put e (Int32.ofInt 2) (g_ixo (f_X5_here S)) S) 66 4) + (Int32.ofInt 1))) else g_X5_readNumber e S)) else (if (f_X5_opens a S) = 0 then g_X5_opens a S else g_X5_expect (Int32.ofInt 93) (φS (a + (Int32.ofInt 1)) (g_X5_opens a S)))) else (if ¬ (f_X5_here S) = (Int32.ofInt 91) then (if (f_X5_here S) < (Int32.ofInt 48) then g_X5_fail (Int32.ofInt 1) (S 66 4) S else (if (Int32.ofInt 57) < (f_X5_here S) then g_X5_fail (Int32.ofInt 1) (S 66 4) S else g_X5_readNumber e S)) else (if (f_X5_opens a S) = 0 then g_X5_opens a S else g_X5_expect (Int32.ofInt 93) (φS (a + (Int32.ofInt 1)) (g_X5_opens a S)))))
noncomputable def g_readFactorF (e : Nat) (φS : Int32 → v_Sf → v_Sf) (a : Int32) (S : v_Sf) : v_Sf := F_readFactorF e φS a S
theorem c_readFactorF (L : Nat) (xs : Nat → Int32) (n d : Nat) {R : v_Rf} {e : Nat} (hE : R 66 1 = some (e + 1)) (he : z_cd e) (pr : Int32 → Prop) (φS : Int32 → v_Sf → v_Sf) (hφS : ∀ (n d : Nat) (i : Int32) (S : v_Sf), pr i → u_P L xs n d m_X5_readSum 0 (lv_args 0 [.ref 67, .int i]) [] S R (z_V R (fun S1 => φS i S = S1))) (a : Int32) (hs : a < (Int32.ofInt 6) → pr (a + (Int32.ofInt 1))) (S : v_Sf) : u_P L xs n d m_X5_readFactor 0 (lv_args 0 [.ref 67, .int a]) [] S R (z_V R (fun S1 => g_readFactorF e φS a S = S1)) := by
  refine w_readFactorF L xs hE he pr φS hφS a  (fun S1 => g_readFactorF e φS a S = S1)  n d S ?_
  · unfold D_readFactorF
    refine ⟨fun q1 => ?_, fun q1 => ?_⟩
    · refine ⟨fun q2 => ?_, fun q2 => ?_⟩
      · refine ⟨fun q3 => ?_, fun q3 => ?_⟩
        · refine ⟨fun q4 => ?_, fun q4 => ?_⟩
          · have e : g_X5_fail (Int32.ofInt 1) (S 66 4) S = F_readFactorF e φS a S := by rw [F_readFactorF, if_pos q1, if_pos q2, if_pos q3, if_pos q4]
            exact e.symm
          · have e : z_s (g_X1_put e (Int32.ofInt 2) (g_ixo (f_X5_here S)) S) 66 4 (((g_X1_put e (Int32.ofInt 2) (g_ixo (f_X5_here S)) S) 66 4) + (Int32.ofInt 1)) = F_readFactorF e φS a S := by rw [F_readFactorF, if_pos q1, if_pos q2, if_pos q3, if_neg q4]
            exact e.symm
        · refine ⟨fun q5 => ?_, fun q5 => ?_⟩
          · refine ⟨fun q6 => ?_, fun q6 => ?_⟩
            · have e : g_X5_fail (Int32.ofInt 1) (S 66 4) S = F_readFactorF e φS a S := by rw [F_readFactorF, if_pos q1, if_pos q2, if_neg q3, if_pos q5, if_pos q6]
              exact e.symm
            · have e : z_s (g_X1_put e (Int32.ofInt 2) (g_ixo (f_X5_here S)) S) 66 4 (((g_X1_put e (Int32.ofInt 2) (g_ixo (f_X5_here S)) S) 66 4) + (Int32.ofInt 1)) = F_readFactorF e φS a S := by rw [F_readFactorF, if_pos q1, if_pos q2, if_neg q3, if_pos q5, if_neg q6]
              exact e.symm
          · have e : g_X5_readNumber e S = F_readFactorF e φS a S := by rw [F_readFactorF, if_pos q1, if_pos q2, if_neg q3, if_neg q5]
            exact e.symm
      · refine ⟨fun q7 => ?_, fun q7 => ?_⟩
        · have e : g_X5_opens a S = F_readFactorF e φS a S := by rw [F_readFactorF, if_pos q1, if_neg q2, if_pos q7]
          exact e.symm
        · refine ⟨hs (z_op (by assumption)), ?_⟩
          have e : g_X5_expect (Int32.ofInt 93) (φS (a + (Int32.ofInt 1)) (g_X5_opens a S)) = F_readFactorF e φS a S := by rw [F_readFactorF, if_pos q1, if_neg q2, if_neg q7]
          exact e.symm
    · refine ⟨fun q8 => ?_, fun q8 => ?_⟩
      · refine ⟨fun q9 => ?_, fun q9 => ?_⟩
        · have e : g_X5_fail (Int32.ofInt 1) (S 66 4) S = F_readFactorF e φS a S := by rw [F_readFactorF, if_neg q1, if_pos q8, if_pos q9]
          exact e.symm
        · refine ⟨fun q10 => ?_, fun q10 => ?_⟩
          · have e : g_X5_fail (Int32.ofInt 1) (S 66 4) S = F_readFactorF e φS a S := by rw [F_readFactorF, if_neg q1, if_pos q8, if_neg q9, if_pos q10]
            exact e.symm
          · have e : g_X5_readNumber e S = F_readFactorF e φS a S := by rw [F_readFactorF, if_neg q1, if_pos q8, if_neg q9, if_neg q10]
            exact e.symm
      · refine ⟨fun q11 => ?_, fun q11 => ?_⟩
        · have e : g_X5_opens a S = F_readFactorF e φS a S := by rw [F_readFactorF, if_neg q1, if_neg q8, if_pos q11]
          exact e.symm
        · refine ⟨hs (z_op (by assumption)), ?_⟩
          have e : g_X5_expect (Int32.ofInt 93) (φS (a + (Int32.ofInt 1)) (g_X5_opens a S)) = F_readFactorF e φS a S := by rw [F_readFactorF, if_neg q1, if_neg q8, if_neg q11]
          exact e.symm
noncomputable abbrev m_X5_readTerm : g_M := (g_cn 5, yX5_readTerm, cX5_readTerm, 4, none, g_look2 ttX5_readTerm)
set_option maxRecDepth 20000 in
theorem mt_X5_readTerm : g_mt 75 = some m_X5_readTerm := rfl
noncomputable def D_readTermF_7 (pr : Int32 → Prop) (e : Nat) (φS : Int32 → v_Sf → v_Sf) (H7 : Int32 → Int32 → v_Sf → Prop) (K : v_Sf → Prop) (x1 : Int32) (x2 : Int32) (S : v_Sf) : Prop := (((Int32.ofInt 240) ≤ x2 → K S) ∧ (¬ ((Int32.ofInt 240) ≤ x2) → (((f_X5_here S) = (Int32.ofInt 42) → ((x1 < (Int32.ofInt 6) → pr (x1 + (Int32.ofInt 1))) ∧ H7 x1 (x2 + (Int32.ofInt 1)) (g_X1_put e (f_X5_here S) (Int32.ofInt 0) (g_readFactorF e φS x1 (z_s S 66 4 ((S 66 4) + (Int32.ofInt 1))))))) ∧ (¬ ((f_X5_here S) = (Int32.ofInt 42)) → (((f_X5_here S) = (Int32.ofInt 47) → ((x1 < (Int32.ofInt 6) → pr (x1 + (Int32.ofInt 1))) ∧ H7 x1 (x2 + (Int32.ofInt 1)) (g_X1_put e (f_X5_here S) (Int32.ofInt 0) (g_readFactorF e φS x1 (z_s S 66 4 ((S 66 4) + (Int32.ofInt 1))))))) ∧ (¬ ((f_X5_here S) = (Int32.ofInt 47)) → (((¬ (f_X5_here S) = (Int32.ofInt 37)) → K S) ∧ (¬ (¬ (f_X5_here S) = (Int32.ofInt 37)) → ((x1 < (Int32.ofInt 6) → pr (x1 + (Int32.ofInt 1))) ∧ H7 x1 (x2 + (Int32.ofInt 1)) (g_X1_put e (f_X5_here S) (Int32.ofInt 0) (g_readFactorF e φS x1 (z_s S 66 4 ((S 66 4) + (Int32.ofInt 1))))))))))))))
noncomputable def D_readTermF (pr : Int32 → Prop) (e : Nat) (φS : Int32 → v_Sf → v_Sf) (a : Int32) (H7 : Int32 → Int32 → v_Sf → Prop) (K : v_Sf → Prop) (S : v_Sf) : Prop := ((a < (Int32.ofInt 6) → pr (a + (Int32.ofInt 1))) ∧ H7 a (Int32.ofInt 0) (g_readFactorF e φS a S))
set_option maxRecDepth 4000 in
theorem hd_readTermF (L : Nat) (xs : Nat → Int32) {R : v_Rf} {e : Nat} (hE : R 66 1 = some (e + 1)) (he : z_cd e) (pr : Int32 → Prop) (φS : Int32 → v_Sf → v_Sf) (hφS : ∀ (n d : Nat) (i : Int32) (S : v_Sf), pr i → u_P L xs n d m_X5_readSum 0 (lv_args 0 [.ref 67, .int i]) [] S R (z_V R (fun S1 => φS i S = S1))) (a : Int32) (H7 : Int32 → Int32 → v_Sf → Prop) (K : v_Sf → Prop) (k7 : ∀ (x1 : Int32) (x2 : Int32) (S : v_Sf), H7 x1 x2 S → D_readTermF_7 pr e φS H7 K x1 x2 S) : ∀ n, (∀ (d : Nat) (x1 : Int32) (x2 : Int32) (S : v_Sf), H7 x1 x2 S → u_P L xs n d m_X5_readTerm 7 [(0, .ref 67), (1, .int x1), (2, .int x2)] [] S R (z_V R K)) ∧ (∀ (d : Nat) (j3 : Int32) (x1 : Int32) (x2 : Int32) (S : v_Sf), H7 x1 x2 S → u_P L xs n d m_X5_readTerm 7 [(0, .ref 67), (1, .int x1), (2, .int x2), (3, .int j3)] [] S R (z_V R K)) := by
  intro n
  induction n using Nat.strongRecOn with
  | ind n ih =>
    refine ⟨?_, ?_⟩
    · intro d x1 x2 S hD
      have hD := k7 x1 x2 S hD
      unfold D_readTermF_7 at hD
      show u_P L xs n d m_X5_readTerm 7 [(0, .ref 67), (1, .int x1), (2, .int x2)] [] S R _
      refine u_st1 rfl (fun _ => rfl) (fun m hm => ?_)
      refine u_st rfl (fun _ => rfl) ?_
      show u_P L xs m d m_X5_readTerm 11 [(0, .ref 67), (1, .int x1), (2, .int x2)] [.int (Int32.ofInt 240), .int x2] S R _
      refine u_ic_ge rfl (fun h1 => ?_) (fun h1 => ?_)
      · have hD := hD.1 h1
        show u_P L xs m d m_X5_readTerm 77 [(0, .ref 67), (1, .int x1), (2, .int x2)] [] S R _
        exact u_ret rfl rfl ⟨rfl, rfl, hD⟩
      · have hD := hD.2 h1
        show u_P L xs m d m_X5_readTerm 14 [(0, .ref 67), (1, .int x1), (2, .int x2)] [] S R _
        refine u_st rfl (fun _ => rfl) ?_
        show u_P L xs m d m_X5_readTerm 15 [(0, .ref 67), (1, .int x1), (2, .int x2)] [.ref 67] S R _
        refine u_cv (rest := []) rfl (by decide) mt_X5_here rfl rfl rfl rfl (Nat.le_of_ble_eq_true rfl) (Nat.le_of_ble_eq_true rfl) (Nat.le_of_ble_eq_true rfl) (fun d' => c_X5_here L xs m d' S R) ?_
        rintro _ _ _ ⟨_, rfl, rfl, rfl, rfl⟩
        refine u_st rfl (fun _ => rfl) ?_
        show u_P L xs m d m_X5_readTerm 20 [(0, .ref 67), (1, .int x1), (2, .int x2)] [.int (Int32.ofInt 42), .int (f_X5_here S)] S R _
        refine u_ic_eq rfl (fun h2 => ?_) (fun h2 => ?_)
        · have hD := hD.1 h2
          show u_P L xs m d m_X5_readTerm 41 [(0, .ref 67), (1, .int x1), (2, .int x2)] [] S R _
          refine u_st rfl (fun _ => rfl) ?_
          show u_P L xs m d m_X5_readTerm 42 [(0, .ref 67), (1, .int x1), (2, .int x2)] [.ref 67] S R _
          refine u_cv (rest := []) rfl (by decide) mt_X5_here rfl rfl rfl rfl (Nat.le_of_ble_eq_true rfl) (Nat.le_of_ble_eq_true rfl) (Nat.le_of_ble_eq_true rfl) (fun d' => c_X5_here L xs m d' S R) ?_
          rintro _ _ _ ⟨_, rfl, rfl, rfl, rfl⟩
          refine u_st rfl (fun _ => rfl) ?_
          refine u_st rfl (fun _ => rfl) ?_
          refine u_st rfl (fun _ => rfl) ?_
          show u_P L xs m d m_X5_readTerm 48 [(3, .int (f_X5_here S)), (0, .ref 67), (1, .int x1), (2, .int x2)] [.ref 67, .ref 67] S R _
          refine u_getE (v := S 66 4) rfl rfl rfl rfl ?_
          refine u_st rfl (fun _ => rfl) ?_
          refine u_st rfl (fun _ => rfl) ?_
          show u_P L xs m d m_X5_readTerm 53 [(3, .int (f_X5_here S)), (0, .ref 67), (1, .int x1), (2, .int x2)] [.int ((S 66 4) + (Int32.ofInt 1)), .ref 67] S R _
          refine u_put rfl rfl rfl ?_
          refine u_st rfl (fun _ => rfl) ?_
          refine u_st rfl (fun _ => rfl) ?_
          show u_P L xs m d m_X5_readTerm 58 [(3, .int (f_X5_here S)), (0, .ref 67), (1, .int x1), (2, .int x2)] [.int x1, .ref 67] (z_s S 66 4 ((S 66 4) + (Int32.ofInt 1))) R _
          refine u_cv (rest := []) rfl (by decide) mt_X5_readFactor rfl rfl rfl rfl (Nat.le_of_ble_eq_true rfl) (Nat.le_of_ble_eq_true rfl) (Nat.le_of_ble_eq_true rfl) (fun d' => c_readFactorF L xs m d' hE he pr φS hφS x1 hD.1 (z_s S 66 4 ((S 66 4) + (Int32.ofInt 1)))) ?_
          rintro _ _ _ ⟨rfl, rfl, rfl⟩
          have hD := hD.2
          show u_P L xs m d m_X5_readTerm 61 [(3, .int (f_X5_here S)), (0, .ref 67), (1, .int x1), (2, .int x2)] [] (g_readFactorF e φS x1 (z_s S 66 4 ((S 66 4) + (Int32.ofInt 1)))) R _
          refine u_st rfl (fun _ => rfl) ?_
          show u_P L xs m d m_X5_readTerm 62 [(3, .int (f_X5_here S)), (0, .ref 67), (1, .int x1), (2, .int x2)] [.ref 67] (g_readFactorF e φS x1 (z_s S 66 4 ((S 66 4) + (Int32.ofInt 1)))) R _
          refine u_getv rfl rfl rfl hE ?_
          refine u_st rfl (fun _ => rfl) ?_
          refine u_st rfl (fun _ => rfl) ?_
          show u_P L xs m d m_X5_readTerm 67 [(3, .int (f_X5_here S)), (0, .ref 67), (1, .int x1), (2, .int x2)] [.int (Int32.ofInt 0), .int (f_X5_here S), .ref (e + 1)] (g_readFactorF e φS x1 (z_s S 66 4 ((S 66 4) + (Int32.ofInt 1)))) R _
          refine u_cv (rest := []) rfl (by decide) mt_X1_put (z_cd0 he) rfl rfl rfl (Nat.le_of_ble_eq_true rfl) (Nat.le_of_ble_eq_true rfl) (Nat.le_of_ble_eq_true rfl) (fun d' => c_X1_put L xs m d' e he (f_X5_here S) (Int32.ofInt 0) (g_readFactorF e φS x1 (z_s S 66 4 ((S 66 4) + (Int32.ofInt 1)))) R) ?_
          rintro _ _ _ ⟨_, rfl, rfl, rfl, rfl⟩
          refine u_st rfl (fun _ => rfl) ?_
          refine u_st rfl (fun _ => rfl) ?_
          refine u_st rfl (fun _ => rfl) ?_
          refine u_lc (b := [(0, .ref 67), (1, .int x1), (2, .int (x2 + (Int32.ofInt 1))), (3, .int (f_X5_here S))]) (show ([2, 3, 0, 1] : List Nat).Nodup by decide) (show ([0, 1, 2, 3] : List Nat).Nodup by decide) (fun i => match i with | 0 => rfl | 1 => rfl | 2 => rfl | 3 => rfl | _ + 4 => rfl) ?_
          exact (ih m hm).2 d (f_X5_here S) x1 (x2 + (Int32.ofInt 1)) (g_X1_put e (f_X5_here S) (Int32.ofInt 0) (g_readFactorF e φS x1 (z_s S 66 4 ((S 66 4) + (Int32.ofInt 1))))) hD
        · have hD := hD.2 h2
          show u_P L xs m d m_X5_readTerm 23 [(0, .ref 67), (1, .int x1), (2, .int x2)] [] S R _
          refine u_st rfl (fun _ => rfl) ?_
          show u_P L xs m d m_X5_readTerm 24 [(0, .ref 67), (1, .int x1), (2, .int x2)] [.ref 67] S R _
          refine u_cv (rest := []) rfl (by decide) mt_X5_here rfl rfl rfl rfl (Nat.le_of_ble_eq_true rfl) (Nat.le_of_ble_eq_true rfl) (Nat.le_of_ble_eq_true rfl) (fun d' => c_X5_here L xs m d' S R) ?_
          rintro _ _ _ ⟨_, rfl, rfl, rfl, rfl⟩
          refine u_st rfl (fun _ => rfl) ?_
          show u_P L xs m d m_X5_readTerm 29 [(0, .ref 67), (1, .int x1), (2, .int x2)] [.int (Int32.ofInt 47), .int (f_X5_here S)] S R _
          refine u_ic_eq rfl (fun h3 => ?_) (fun h3 => ?_)
          · have hD := hD.1 h3
            show u_P L xs m d m_X5_readTerm 41 [(0, .ref 67), (1, .int x1), (2, .int x2)] [] S R _
            refine u_st rfl (fun _ => rfl) ?_
            show u_P L xs m d m_X5_readTerm 42 [(0, .ref 67), (1, .int x1), (2, .int x2)] [.ref 67] S R _
            refine u_cv (rest := []) rfl (by decide) mt_X5_here rfl rfl rfl rfl (Nat.le_of_ble_eq_true rfl) (Nat.le_of_ble_eq_true rfl) (Nat.le_of_ble_eq_true rfl) (fun d' => c_X5_here L xs m d' S R) ?_
            rintro _ _ _ ⟨_, rfl, rfl, rfl, rfl⟩
            refine u_st rfl (fun _ => rfl) ?_
            refine u_st rfl (fun _ => rfl) ?_
            refine u_st rfl (fun _ => rfl) ?_
            show u_P L xs m d m_X5_readTerm 48 [(3, .int (f_X5_here S)), (0, .ref 67), (1, .int x1), (2, .int x2)] [.ref 67, .ref 67] S R _
            refine u_getE (v := S 66 4) rfl rfl rfl rfl ?_
            refine u_st rfl (fun _ => rfl) ?_
            refine u_st rfl (fun _ => rfl) ?_
            show u_P L xs m d m_X5_readTerm 53 [(3, .int (f_X5_here S)), (0, .ref 67), (1, .int x1), (2, .int x2)] [.int ((S 66 4) + (Int32.ofInt 1)), .ref 67] S R _
            refine u_put rfl rfl rfl ?_
            refine u_st rfl (fun _ => rfl) ?_
            refine u_st rfl (fun _ => rfl) ?_
            show u_P L xs m d m_X5_readTerm 58 [(3, .int (f_X5_here S)), (0, .ref 67), (1, .int x1), (2, .int x2)] [.int x1, .ref 67] (z_s S 66 4 ((S 66 4) + (Int32.ofInt 1))) R _
            refine u_cv (rest := []) rfl (by decide) mt_X5_readFactor rfl rfl rfl rfl (Nat.le_of_ble_eq_true rfl) (Nat.le_of_ble_eq_true rfl) (Nat.le_of_ble_eq_true rfl) (fun d' => c_readFactorF L xs m d' hE he pr φS hφS x1 hD.1 (z_s S 66 4 ((S 66 4) + (Int32.ofInt 1)))) ?_
            rintro _ _ _ ⟨rfl, rfl, rfl⟩
            have hD := hD.2
            show u_P L xs m d m_X5_readTerm 61 [(3, .int (f_X5_here S)), (0, .ref 67), (1, .int x1), (2, .int x2)] [] (g_readFactorF e φS x1 (z_s S 66 4 ((S 66 4) + (Int32.ofInt 1)))) R _
            refine u_st rfl (fun _ => rfl) ?_
            show u_P L xs m d m_X5_readTerm 62 [(3, .int (f_X5_here S)), (0, .ref 67), (1, .int x1), (2, .int x2)] [.ref 67] (g_readFactorF e φS x1 (z_s S 66 4 ((S 66 4) + (Int32.ofInt 1)))) R _
            refine u_getv rfl rfl rfl hE ?_
            refine u_st rfl (fun _ => rfl) ?_
            refine u_st rfl (fun _ => rfl) ?_
            show u_P L xs m d m_X5_readTerm 67 [(3, .int (f_X5_here S)), (0, .ref 67), (1, .int x1), (2, .int x2)] [.int (Int32.ofInt 0), .int (f_X5_here S), .ref (e + 1)] (g_readFactorF e φS x1 (z_s S 66 4 ((S 66 4) + (Int32.ofInt 1)))) R _
            refine u_cv (rest := []) rfl (by decide) mt_X1_put (z_cd0 he) rfl rfl rfl (Nat.le_of_ble_eq_true rfl) (Nat.le_of_ble_eq_true rfl) (Nat.le_of_ble_eq_true rfl) (fun d' => c_X1_put L xs m d' e he (f_X5_here S) (Int32.ofInt 0) (g_readFactorF e φS x1 (z_s S 66 4 ((S 66 4) + (Int32.ofInt 1)))) R) ?_
            rintro _ _ _ ⟨_, rfl, rfl, rfl, rfl⟩
            refine u_st rfl (fun _ => rfl) ?_
            refine u_st rfl (fun _ => rfl) ?_
            refine u_st rfl (fun _ => rfl) ?_
            refine u_lc (b := [(0, .ref 67), (1, .int x1), (2, .int (x2 + (Int32.ofInt 1))), (3, .int (f_X5_here S))]) (show ([2, 3, 0, 1] : List Nat).Nodup by decide) (show ([0, 1, 2, 3] : List Nat).Nodup by decide) (fun i => match i with | 0 => rfl | 1 => rfl | 2 => rfl | 3 => rfl | _ + 4 => rfl) ?_
            exact (ih m hm).2 d (f_X5_here S) x1 (x2 + (Int32.ofInt 1)) (g_X1_put e (f_X5_here S) (Int32.ofInt 0) (g_readFactorF e φS x1 (z_s S 66 4 ((S 66 4) + (Int32.ofInt 1))))) hD
          · have hD := hD.2 h3
            show u_P L xs m d m_X5_readTerm 32 [(0, .ref 67), (1, .int x1), (2, .int x2)] [] S R _
            refine u_st rfl (fun _ => rfl) ?_
            show u_P L xs m d m_X5_readTerm 33 [(0, .ref 67), (1, .int x1), (2, .int x2)] [.ref 67] S R _
            refine u_cv (rest := []) rfl (by decide) mt_X5_here rfl rfl rfl rfl (Nat.le_of_ble_eq_true rfl) (Nat.le_of_ble_eq_true rfl) (Nat.le_of_ble_eq_true rfl) (fun d' => c_X5_here L xs m d' S R) ?_
            rintro _ _ _ ⟨_, rfl, rfl, rfl, rfl⟩
            refine u_st rfl (fun _ => rfl) ?_
            show u_P L xs m d m_X5_readTerm 38 [(0, .ref 67), (1, .int x1), (2, .int x2)] [.int (Int32.ofInt 37), .int (f_X5_here S)] S R _
            refine u_ic_ne rfl (fun h4 => ?_) (fun h4 => ?_)
            · have hD := hD.1 h4
              show u_P L xs m d m_X5_readTerm 77 [(0, .ref 67), (1, .int x1), (2, .int x2)] [] S R _
              exact u_ret rfl rfl ⟨rfl, rfl, hD⟩
            · have hD := hD.2 h4
              show u_P L xs m d m_X5_readTerm 41 [(0, .ref 67), (1, .int x1), (2, .int x2)] [] S R _
              refine u_st rfl (fun _ => rfl) ?_
              show u_P L xs m d m_X5_readTerm 42 [(0, .ref 67), (1, .int x1), (2, .int x2)] [.ref 67] S R _
              refine u_cv (rest := []) rfl (by decide) mt_X5_here rfl rfl rfl rfl (Nat.le_of_ble_eq_true rfl) (Nat.le_of_ble_eq_true rfl) (Nat.le_of_ble_eq_true rfl) (fun d' => c_X5_here L xs m d' S R) ?_
              rintro _ _ _ ⟨_, rfl, rfl, rfl, rfl⟩
              refine u_st rfl (fun _ => rfl) ?_
              refine u_st rfl (fun _ => rfl) ?_
              refine u_st rfl (fun _ => rfl) ?_
              show u_P L xs m d m_X5_readTerm 48 [(3, .int (f_X5_here S)), (0, .ref 67), (1, .int x1), (2, .int x2)] [.ref 67, .ref 67] S R _
              refine u_getE (v := S 66 4) rfl rfl rfl rfl ?_
              refine u_st rfl (fun _ => rfl) ?_
              refine u_st rfl (fun _ => rfl) ?_
              show u_P L xs m d m_X5_readTerm 53 [(3, .int (f_X5_here S)), (0, .ref 67), (1, .int x1), (2, .int x2)] [.int ((S 66 4) + (Int32.ofInt 1)), .ref 67] S R _
              refine u_put rfl rfl rfl ?_
              refine u_st rfl (fun _ => rfl) ?_
              refine u_st rfl (fun _ => rfl) ?_
              show u_P L xs m d m_X5_readTerm 58 [(3, .int (f_X5_here S)), (0, .ref 67), (1, .int x1), (2, .int x2)] [.int x1, .ref 67] (z_s S 66 4 ((S 66 4) + (Int32.ofInt 1))) R _
              refine u_cv (rest := []) rfl (by decide) mt_X5_readFactor rfl rfl rfl rfl (Nat.le_of_ble_eq_true rfl) (Nat.le_of_ble_eq_true rfl) (Nat.le_of_ble_eq_true rfl) (fun d' => c_readFactorF L xs m d' hE he pr φS hφS x1 hD.1 (z_s S 66 4 ((S 66 4) + (Int32.ofInt 1)))) ?_
              rintro _ _ _ ⟨rfl, rfl, rfl⟩
              have hD := hD.2
              show u_P L xs m d m_X5_readTerm 61 [(3, .int (f_X5_here S)), (0, .ref 67), (1, .int x1), (2, .int x2)] [] (g_readFactorF e φS x1 (z_s S 66 4 ((S 66 4) + (Int32.ofInt 1)))) R _
              refine u_st rfl (fun _ => rfl) ?_
              show u_P L xs m d m_X5_readTerm 62 [(3, .int (f_X5_here S)), (0, .ref 67), (1, .int x1), (2, .int x2)] [.ref 67] (g_readFactorF e φS x1 (z_s S 66 4 ((S 66 4) + (Int32.ofInt 1)))) R _
              refine u_getv rfl rfl rfl hE ?_
              refine u_st rfl (fun _ => rfl) ?_
              refine u_st rfl (fun _ => rfl) ?_
              show u_P L xs m d m_X5_readTerm 67 [(3, .int (f_X5_here S)), (0, .ref 67), (1, .int x1), (2, .int x2)] [.int (Int32.ofInt 0), .int (f_X5_here S), .ref (e + 1)] (g_readFactorF e φS x1 (z_s S 66 4 ((S 66 4) + (Int32.ofInt 1)))) R _
              refine u_cv (rest := []) rfl (by decide) mt_X1_put (z_cd0 he) rfl rfl rfl (Nat.le_of_ble_eq_true rfl) (Nat.le_of_ble_eq_true rfl) (Nat.le_of_ble_eq_true rfl) (fun d' => c_X1_put L xs m d' e he (f_X5_here S) (Int32.ofInt 0) (g_readFactorF e φS x1 (z_s S 66 4 ((S 66 4) + (Int32.ofInt 1)))) R) ?_
              rintro _ _ _ ⟨_, rfl, rfl, rfl, rfl⟩
              refine u_st rfl (fun _ => rfl) ?_
              refine u_st rfl (fun _ => rfl) ?_
              refine u_st rfl (fun _ => rfl) ?_
              refine u_lc (b := [(0, .ref 67), (1, .int x1), (2, .int (x2 + (Int32.ofInt 1))), (3, .int (f_X5_here S))]) (show ([2, 3, 0, 1] : List Nat).Nodup by decide) (show ([0, 1, 2, 3] : List Nat).Nodup by decide) (fun i => match i with | 0 => rfl | 1 => rfl | 2 => rfl | 3 => rfl | _ + 4 => rfl) ?_
              exact (ih m hm).2 d (f_X5_here S) x1 (x2 + (Int32.ofInt 1)) (g_X1_put e (f_X5_here S) (Int32.ofInt 0) (g_readFactorF e φS x1 (z_s S 66 4 ((S 66 4) + (Int32.ofInt 1))))) hD
    · intro d j3 x1 x2 S hD
      have hD := k7 x1 x2 S hD
      unfold D_readTermF_7 at hD
      show u_P L xs n d m_X5_readTerm 7 [(0, .ref 67), (1, .int x1), (2, .int x2), (3, .int j3)] [] S R _
      refine u_st1 rfl (fun _ => rfl) (fun m hm => ?_)
      refine u_st rfl (fun _ => rfl) ?_
      show u_P L xs m d m_X5_readTerm 11 [(0, .ref 67), (1, .int x1), (2, .int x2), (3, .int j3)] [.int (Int32.ofInt 240), .int x2] S R _
      refine u_ic_ge rfl (fun h1 => ?_) (fun h1 => ?_)
      · have hD := hD.1 h1
        show u_P L xs m d m_X5_readTerm 77 [(0, .ref 67), (1, .int x1), (2, .int x2), (3, .int j3)] [] S R _
        exact u_ret rfl rfl ⟨rfl, rfl, hD⟩
      · have hD := hD.2 h1
        show u_P L xs m d m_X5_readTerm 14 [(0, .ref 67), (1, .int x1), (2, .int x2), (3, .int j3)] [] S R _
        refine u_st rfl (fun _ => rfl) ?_
        show u_P L xs m d m_X5_readTerm 15 [(0, .ref 67), (1, .int x1), (2, .int x2), (3, .int j3)] [.ref 67] S R _
        refine u_cv (rest := []) rfl (by decide) mt_X5_here rfl rfl rfl rfl (Nat.le_of_ble_eq_true rfl) (Nat.le_of_ble_eq_true rfl) (Nat.le_of_ble_eq_true rfl) (fun d' => c_X5_here L xs m d' S R) ?_
        rintro _ _ _ ⟨_, rfl, rfl, rfl, rfl⟩
        refine u_st rfl (fun _ => rfl) ?_
        show u_P L xs m d m_X5_readTerm 20 [(0, .ref 67), (1, .int x1), (2, .int x2), (3, .int j3)] [.int (Int32.ofInt 42), .int (f_X5_here S)] S R _
        refine u_ic_eq rfl (fun h2 => ?_) (fun h2 => ?_)
        · have hD := hD.1 h2
          show u_P L xs m d m_X5_readTerm 41 [(0, .ref 67), (1, .int x1), (2, .int x2), (3, .int j3)] [] S R _
          refine u_st rfl (fun _ => rfl) ?_
          show u_P L xs m d m_X5_readTerm 42 [(0, .ref 67), (1, .int x1), (2, .int x2), (3, .int j3)] [.ref 67] S R _
          refine u_cv (rest := []) rfl (by decide) mt_X5_here rfl rfl rfl rfl (Nat.le_of_ble_eq_true rfl) (Nat.le_of_ble_eq_true rfl) (Nat.le_of_ble_eq_true rfl) (fun d' => c_X5_here L xs m d' S R) ?_
          rintro _ _ _ ⟨_, rfl, rfl, rfl, rfl⟩
          refine u_st rfl (fun _ => rfl) ?_
          refine u_st rfl (fun _ => rfl) ?_
          refine u_st rfl (fun _ => rfl) ?_
          show u_P L xs m d m_X5_readTerm 48 [(3, .int (f_X5_here S)), (0, .ref 67), (1, .int x1), (2, .int x2)] [.ref 67, .ref 67] S R _
          refine u_getE (v := S 66 4) rfl rfl rfl rfl ?_
          refine u_st rfl (fun _ => rfl) ?_
          refine u_st rfl (fun _ => rfl) ?_
          show u_P L xs m d m_X5_readTerm 53 [(3, .int (f_X5_here S)), (0, .ref 67), (1, .int x1), (2, .int x2)] [.int ((S 66 4) + (Int32.ofInt 1)), .ref 67] S R _
          refine u_put rfl rfl rfl ?_
          refine u_st rfl (fun _ => rfl) ?_
          refine u_st rfl (fun _ => rfl) ?_
          show u_P L xs m d m_X5_readTerm 58 [(3, .int (f_X5_here S)), (0, .ref 67), (1, .int x1), (2, .int x2)] [.int x1, .ref 67] (z_s S 66 4 ((S 66 4) + (Int32.ofInt 1))) R _
          refine u_cv (rest := []) rfl (by decide) mt_X5_readFactor rfl rfl rfl rfl (Nat.le_of_ble_eq_true rfl) (Nat.le_of_ble_eq_true rfl) (Nat.le_of_ble_eq_true rfl) (fun d' => c_readFactorF L xs m d' hE he pr φS hφS x1 hD.1 (z_s S 66 4 ((S 66 4) + (Int32.ofInt 1)))) ?_
          rintro _ _ _ ⟨rfl, rfl, rfl⟩
          have hD := hD.2
          show u_P L xs m d m_X5_readTerm 61 [(3, .int (f_X5_here S)), (0, .ref 67), (1, .int x1), (2, .int x2)] [] (g_readFactorF e φS x1 (z_s S 66 4 ((S 66 4) + (Int32.ofInt 1)))) R _
          refine u_st rfl (fun _ => rfl) ?_
          show u_P L xs m d m_X5_readTerm 62 [(3, .int (f_X5_here S)), (0, .ref 67), (1, .int x1), (2, .int x2)] [.ref 67] (g_readFactorF e φS x1 (z_s S 66 4 ((S 66 4) + (Int32.ofInt 1)))) R _
          refine u_getv rfl rfl rfl hE ?_
          refine u_st rfl (fun _ => rfl) ?_
          refine u_st rfl (fun _ => rfl) ?_
          show u_P L xs m d m_X5_readTerm 67 [(3, .int (f_X5_here S)), (0, .ref 67), (1, .int x1), (2, .int x2)] [.int (Int32.ofInt 0), .int (f_X5_here S), .ref (e + 1)] (g_readFactorF e φS x1 (z_s S 66 4 ((S 66 4) + (Int32.ofInt 1)))) R _
          refine u_cv (rest := []) rfl (by decide) mt_X1_put (z_cd0 he) rfl rfl rfl (Nat.le_of_ble_eq_true rfl) (Nat.le_of_ble_eq_true rfl) (Nat.le_of_ble_eq_true rfl) (fun d' => c_X1_put L xs m d' e he (f_X5_here S) (Int32.ofInt 0) (g_readFactorF e φS x1 (z_s S 66 4 ((S 66 4) + (Int32.ofInt 1)))) R) ?_
          rintro _ _ _ ⟨_, rfl, rfl, rfl, rfl⟩
          refine u_st rfl (fun _ => rfl) ?_
          refine u_st rfl (fun _ => rfl) ?_
          refine u_st rfl (fun _ => rfl) ?_
          refine u_lc (b := [(0, .ref 67), (1, .int x1), (2, .int (x2 + (Int32.ofInt 1))), (3, .int (f_X5_here S))]) (show ([2, 3, 0, 1] : List Nat).Nodup by decide) (show ([0, 1, 2, 3] : List Nat).Nodup by decide) (fun i => match i with | 0 => rfl | 1 => rfl | 2 => rfl | 3 => rfl | _ + 4 => rfl) ?_
          exact (ih m hm).2 d (f_X5_here S) x1 (x2 + (Int32.ofInt 1)) (g_X1_put e (f_X5_here S) (Int32.ofInt 0) (g_readFactorF e φS x1 (z_s S 66 4 ((S 66 4) + (Int32.ofInt 1))))) hD
        · have hD := hD.2 h2
          show u_P L xs m d m_X5_readTerm 23 [(0, .ref 67), (1, .int x1), (2, .int x2), (3, .int j3)] [] S R _
          refine u_st rfl (fun _ => rfl) ?_
          show u_P L xs m d m_X5_readTerm 24 [(0, .ref 67), (1, .int x1), (2, .int x2), (3, .int j3)] [.ref 67] S R _
          refine u_cv (rest := []) rfl (by decide) mt_X5_here rfl rfl rfl rfl (Nat.le_of_ble_eq_true rfl) (Nat.le_of_ble_eq_true rfl) (Nat.le_of_ble_eq_true rfl) (fun d' => c_X5_here L xs m d' S R) ?_
          rintro _ _ _ ⟨_, rfl, rfl, rfl, rfl⟩
          refine u_st rfl (fun _ => rfl) ?_
          show u_P L xs m d m_X5_readTerm 29 [(0, .ref 67), (1, .int x1), (2, .int x2), (3, .int j3)] [.int (Int32.ofInt 47), .int (f_X5_here S)] S R _
          refine u_ic_eq rfl (fun h3 => ?_) (fun h3 => ?_)
          · have hD := hD.1 h3
            show u_P L xs m d m_X5_readTerm 41 [(0, .ref 67), (1, .int x1), (2, .int x2), (3, .int j3)] [] S R _
            refine u_st rfl (fun _ => rfl) ?_
            show u_P L xs m d m_X5_readTerm 42 [(0, .ref 67), (1, .int x1), (2, .int x2), (3, .int j3)] [.ref 67] S R _
            refine u_cv (rest := []) rfl (by decide) mt_X5_here rfl rfl rfl rfl (Nat.le_of_ble_eq_true rfl) (Nat.le_of_ble_eq_true rfl) (Nat.le_of_ble_eq_true rfl) (fun d' => c_X5_here L xs m d' S R) ?_
            rintro _ _ _ ⟨_, rfl, rfl, rfl, rfl⟩
            refine u_st rfl (fun _ => rfl) ?_
            refine u_st rfl (fun _ => rfl) ?_
            refine u_st rfl (fun _ => rfl) ?_
            show u_P L xs m d m_X5_readTerm 48 [(3, .int (f_X5_here S)), (0, .ref 67), (1, .int x1), (2, .int x2)] [.ref 67, .ref 67] S R _
            refine u_getE (v := S 66 4) rfl rfl rfl rfl ?_
            refine u_st rfl (fun _ => rfl) ?_
            refine u_st rfl (fun _ => rfl) ?_
            show u_P L xs m d m_X5_readTerm 53 [(3, .int (f_X5_here S)), (0, .ref 67), (1, .int x1), (2, .int x2)] [.int ((S 66 4) + (Int32.ofInt 1)), .ref 67] S R _
            refine u_put rfl rfl rfl ?_
            refine u_st rfl (fun _ => rfl) ?_
            refine u_st rfl (fun _ => rfl) ?_
            show u_P L xs m d m_X5_readTerm 58 [(3, .int (f_X5_here S)), (0, .ref 67), (1, .int x1), (2, .int x2)] [.int x1, .ref 67] (z_s S 66 4 ((S 66 4) + (Int32.ofInt 1))) R _
            refine u_cv (rest := []) rfl (by decide) mt_X5_readFactor rfl rfl rfl rfl (Nat.le_of_ble_eq_true rfl) (Nat.le_of_ble_eq_true rfl) (Nat.le_of_ble_eq_true rfl) (fun d' => c_readFactorF L xs m d' hE he pr φS hφS x1 hD.1 (z_s S 66 4 ((S 66 4) + (Int32.ofInt 1)))) ?_
            rintro _ _ _ ⟨rfl, rfl, rfl⟩
            have hD := hD.2
            show u_P L xs m d m_X5_readTerm 61 [(3, .int (f_X5_here S)), (0, .ref 67), (1, .int x1), (2, .int x2)] [] (g_readFactorF e φS x1 (z_s S 66 4 ((S 66 4) + (Int32.ofInt 1)))) R _
            refine u_st rfl (fun _ => rfl) ?_
            show u_P L xs m d m_X5_readTerm 62 [(3, .int (f_X5_here S)), (0, .ref 67), (1, .int x1), (2, .int x2)] [.ref 67] (g_readFactorF e φS x1 (z_s S 66 4 ((S 66 4) + (Int32.ofInt 1)))) R _
            refine u_getv rfl rfl rfl hE ?_
            refine u_st rfl (fun _ => rfl) ?_
            refine u_st rfl (fun _ => rfl) ?_
            show u_P L xs m d m_X5_readTerm 67 [(3, .int (f_X5_here S)), (0, .ref 67), (1, .int x1), (2, .int x2)] [.int (Int32.ofInt 0), .int (f_X5_here S), .ref (e + 1)] (g_readFactorF e φS x1 (z_s S 66 4 ((S 66 4) + (Int32.ofInt 1)))) R _
            refine u_cv (rest := []) rfl (by decide) mt_X1_put (z_cd0 he) rfl rfl rfl (Nat.le_of_ble_eq_true rfl) (Nat.le_of_ble_eq_true rfl) (Nat.le_of_ble_eq_true rfl) (fun d' => c_X1_put L xs m d' e he (f_X5_here S) (Int32.ofInt 0) (g_readFactorF e φS x1 (z_s S 66 4 ((S 66 4) + (Int32.ofInt 1)))) R) ?_
            rintro _ _ _ ⟨_, rfl, rfl, rfl, rfl⟩
            refine u_st rfl (fun _ => rfl) ?_
            refine u_st rfl (fun _ => rfl) ?_
            refine u_st rfl (fun _ => rfl) ?_
            refine u_lc (b := [(0, .ref 67), (1, .int x1), (2, .int (x2 + (Int32.ofInt 1))), (3, .int (f_X5_here S))]) (show ([2, 3, 0, 1] : List Nat).Nodup by decide) (show ([0, 1, 2, 3] : List Nat).Nodup by decide) (fun i => match i with | 0 => rfl | 1 => rfl | 2 => rfl | 3 => rfl | _ + 4 => rfl) ?_
            exact (ih m hm).2 d (f_X5_here S) x1 (x2 + (Int32.ofInt 1)) (g_X1_put e (f_X5_here S) (Int32.ofInt 0) (g_readFactorF e φS x1 (z_s S 66 4 ((S 66 4) + (Int32.ofInt 1))))) hD
          · have hD := hD.2 h3
            show u_P L xs m d m_X5_readTerm 32 [(0, .ref 67), (1, .int x1), (2, .int x2), (3, .int j3)] [] S R _
            refine u_st rfl (fun _ => rfl) ?_
            show u_P L xs m d m_X5_readTerm 33 [(0, .ref 67), (1, .int x1), (2, .int x2), (3, .int j3)] [.ref 67] S R _
            refine u_cv (rest := []) rfl (by decide) mt_X5_here rfl rfl rfl rfl (Nat.le_of_ble_eq_true rfl) (Nat.le_of_ble_eq_true rfl) (Nat.le_of_ble_eq_true rfl) (fun d' => c_X5_here L xs m d' S R) ?_
            rintro _ _ _ ⟨_, rfl, rfl, rfl, rfl⟩
            refine u_st rfl (fun _ => rfl) ?_
            show u_P L xs m d m_X5_readTerm 38 [(0, .ref 67), (1, .int x1), (2, .int x2), (3, .int j3)] [.int (Int32.ofInt 37), .int (f_X5_here S)] S R _
            refine u_ic_ne rfl (fun h4 => ?_) (fun h4 => ?_)
            · have hD := hD.1 h4
              show u_P L xs m d m_X5_readTerm 77 [(0, .ref 67), (1, .int x1), (2, .int x2), (3, .int j3)] [] S R _
              exact u_ret rfl rfl ⟨rfl, rfl, hD⟩
            · have hD := hD.2 h4
              show u_P L xs m d m_X5_readTerm 41 [(0, .ref 67), (1, .int x1), (2, .int x2), (3, .int j3)] [] S R _
              refine u_st rfl (fun _ => rfl) ?_
              show u_P L xs m d m_X5_readTerm 42 [(0, .ref 67), (1, .int x1), (2, .int x2), (3, .int j3)] [.ref 67] S R _
              refine u_cv (rest := []) rfl (by decide) mt_X5_here rfl rfl rfl rfl (Nat.le_of_ble_eq_true rfl) (Nat.le_of_ble_eq_true rfl) (Nat.le_of_ble_eq_true rfl) (fun d' => c_X5_here L xs m d' S R) ?_
              rintro _ _ _ ⟨_, rfl, rfl, rfl, rfl⟩
              refine u_st rfl (fun _ => rfl) ?_
              refine u_st rfl (fun _ => rfl) ?_
              refine u_st rfl (fun _ => rfl) ?_
              show u_P L xs m d m_X5_readTerm 48 [(3, .int (f_X5_here S)), (0, .ref 67), (1, .int x1), (2, .int x2)] [.ref 67, .ref 67] S R _
              refine u_getE (v := S 66 4) rfl rfl rfl rfl ?_
              refine u_st rfl (fun _ => rfl) ?_
              refine u_st rfl (fun _ => rfl) ?_
              show u_P L xs m d m_X5_readTerm 53 [(3, .int (f_X5_here S)), (0, .ref 67), (1, .int x1), (2, .int x2)] [.int ((S 66 4) + (Int32.ofInt 1)), .ref 67] S R _
              refine u_put rfl rfl rfl ?_
              refine u_st rfl (fun _ => rfl) ?_
              refine u_st rfl (fun _ => rfl) ?_
              show u_P L xs m d m_X5_readTerm 58 [(3, .int (f_X5_here S)), (0, .ref 67), (1, .int x1), (2, .int x2)] [.int x1, .ref 67] (z_s S 66 4 ((S 66 4) + (Int32.ofInt 1))) R _
              refine u_cv (rest := []) rfl (by decide) mt_X5_readFactor rfl rfl rfl rfl (Nat.le_of_ble_eq_true rfl) (Nat.le_of_ble_eq_true rfl) (Nat.le_of_ble_eq_true rfl) (fun d' => c_readFactorF L xs m d' hE he pr φS hφS x1 hD.1 (z_s S 66 4 ((S 66 4) + (Int32.ofInt 1)))) ?_
              rintro _ _ _ ⟨rfl, rfl, rfl⟩
              have hD := hD.2
              show u_P L xs m d m_X5_readTerm 61 [(3, .int (f_X5_here S)), (0, .ref 67), (1, .int x1), (2, .int x2)] [] (g_readFactorF e φS x1 (z_s S 66 4 ((S 66 4) + (Int32.ofInt 1)))) R _
              refine u_st rfl (fun _ => rfl) ?_
              show u_P L xs m d m_X5_readTerm 62 [(3, .int (f_X5_here S)), (0, .ref 67), (1, .int x1), (2, .int x2)] [.ref 67] (g_readFactorF e φS x1 (z_s S 66 4 ((S 66 4) + (Int32.ofInt 1)))) R _
              refine u_getv rfl rfl rfl hE ?_
              refine u_st rfl (fun _ => rfl) ?_
              refine u_st rfl (fun _ => rfl) ?_
              show u_P L xs m d m_X5_readTerm 67 [(3, .int (f_X5_here S)), (0, .ref 67), (1, .int x1), (2, .int x2)] [.int (Int32.ofInt 0), .int (f_X5_here S), .ref (e + 1)] (g_readFactorF e φS x1 (z_s S 66 4 ((S 66 4) + (Int32.ofInt 1)))) R _
              refine u_cv (rest := []) rfl (by decide) mt_X1_put (z_cd0 he) rfl rfl rfl (Nat.le_of_ble_eq_true rfl) (Nat.le_of_ble_eq_true rfl) (Nat.le_of_ble_eq_true rfl) (fun d' => c_X1_put L xs m d' e he (f_X5_here S) (Int32.ofInt 0) (g_readFactorF e φS x1 (z_s S 66 4 ((S 66 4) + (Int32.ofInt 1)))) R) ?_
              rintro _ _ _ ⟨_, rfl, rfl, rfl, rfl⟩
              refine u_st rfl (fun _ => rfl) ?_
              refine u_st rfl (fun _ => rfl) ?_
              refine u_st rfl (fun _ => rfl) ?_
              refine u_lc (b := [(0, .ref 67), (1, .int x1), (2, .int (x2 + (Int32.ofInt 1))), (3, .int (f_X5_here S))]) (show ([2, 3, 0, 1] : List Nat).Nodup by decide) (show ([0, 1, 2, 3] : List Nat).Nodup by decide) (fun i => match i with | 0 => rfl | 1 => rfl | 2 => rfl | 3 => rfl | _ + 4 => rfl) ?_
              exact (ih m hm).2 d (f_X5_here S) x1 (x2 + (Int32.ofInt 1)) (g_X1_put e (f_X5_here S) (Int32.ofInt 0) (g_readFactorF e φS x1 (z_s S 66 4 ((S 66 4) + (Int32.ofInt 1))))) hD
set_option maxRecDepth 4000 in
theorem w_readTermF (L : Nat) (xs : Nat → Int32) {R : v_Rf} {e : Nat} (hE : R 66 1 = some (e + 1)) (he : z_cd e) (pr : Int32 → Prop) (φS : Int32 → v_Sf → v_Sf) (hφS : ∀ (n d : Nat) (i : Int32) (S : v_Sf), pr i → u_P L xs n d m_X5_readSum 0 (lv_args 0 [.ref 67, .int i]) [] S R (z_V R (fun S1 => φS i S = S1))) (a : Int32) (H7 : Int32 → Int32 → v_Sf → Prop) (K : v_Sf → Prop) (k7 : ∀ (x1 : Int32) (x2 : Int32) (S : v_Sf), H7 x1 x2 S → D_readTermF_7 pr e φS H7 K x1 x2 S) (n d : Nat) (S : v_Sf) (hD : D_readTermF pr e φS a H7 K S) : u_P L xs n d m_X5_readTerm 0 (lv_args 0 [.ref 67, .int a]) [] S R (z_V R K) := by
  unfold D_readTermF at hD
  show u_P L xs n d m_X5_readTerm 0 [(0, .ref 67), (1, .int a)] [] S R _
  refine u_st rfl (fun _ => rfl) ?_
  refine u_st rfl (fun _ => rfl) ?_
  show u_P L xs n d m_X5_readTerm 2 [(0, .ref 67), (1, .int a)] [.int a, .ref 67] S R _
  refine u_cv (rest := []) rfl (by decide) mt_X5_readFactor rfl rfl rfl rfl (Nat.le_of_ble_eq_true rfl) (Nat.le_of_ble_eq_true rfl) (Nat.le_of_ble_eq_true rfl) (fun d' => c_readFactorF L xs n d' hE he pr φS hφS a hD.1 S) ?_
  rintro _ _ _ ⟨rfl, rfl, rfl⟩
  have hD := hD.2
  show u_P L xs n d m_X5_readTerm 5 [(0, .ref 67), (1, .int a)] [] (g_readFactorF e φS a S) R _
  refine u_st rfl (fun _ => rfl) ?_
  refine u_st rfl (fun _ => rfl) ?_
  refine u_lc (b := [(0, .ref 67), (1, .int a), (2, .int (Int32.ofInt 0))]) (show ([2, 0, 1] : List Nat).Nodup by decide) (show ([0, 1, 2] : List Nat).Nodup by decide) (fun i => match i with | 0 => rfl | 1 => rfl | 2 => rfl | _ + 3 => rfl) ?_
  exact (hd_readTermF L xs hE he pr φS hφS a H7 K k7 n).1 d a (Int32.ofInt 0) (g_readFactorF e φS a S) hD
noncomputable def r_readTermF_7 (e : Nat) (φS : Int32 → v_Sf → v_Sf) (x1 : Int32) : Nat → Nat → v_Sf → v_Sf
  | 0, k7, S => S
  | r + 1, k7, S => (if (f_X5_here S) = (Int32.ofInt 42) then r_readTermF_7 e φS x1 r (k7 + 1) (g_X1_put e (f_X5_here S) (Int32.ofInt 0) (g_readFactorF e φS x1 (z_s S 66 4 ((S 66 4) + (Int32.ofInt 1))))) else (if (f_X5_here S) = (Int32.ofInt 47) then r_readTermF_7 e φS x1 r (k7 + 1) (g_X1_put e (f_X5_here S) (Int32.ofInt 0) (g_readFactorF e φS x1 (z_s S 66 4 ((S 66 4) + (Int32.ofInt 1))))) else (if ¬ (f_X5_here S) = (Int32.ofInt 37) then S else r_readTermF_7 e φS x1 r (k7 + 1) (g_X1_put e (f_X5_here S) (Int32.ofInt 0) (g_readFactorF e φS x1 (z_s S 66 4 ((S 66 4) + (Int32.ofInt 1))))))))
noncomputable def F_readTermF (e : Nat) (φS : Int32 → v_Sf → v_Sf) (a : Int32) (S : v_Sf) : v_Sf := r_readTermF_7 e φS a (240 - 0) 0 (g_readFactorF e φS a S)
noncomputable def g_readTermF (e : Nat) (φS : Int32 → v_Sf → v_Sf) (a : Int32) (S : v_Sf) : v_Sf := F_readTermF e φS a S
theorem c_readTermF (L : Nat) (xs : Nat → Int32) (n d : Nat) {R : v_Rf} {e : Nat} (hE : R 66 1 = some (e + 1)) (he : z_cd e) (pr : Int32 → Prop) (φS : Int32 → v_Sf → v_Sf) (hφS : ∀ (n d : Nat) (i : Int32) (S : v_Sf), pr i → u_P L xs n d m_X5_readSum 0 (lv_args 0 [.ref 67, .int i]) [] S R (z_V R (fun S1 => φS i S = S1))) (a : Int32) (hs : a < (Int32.ofInt 6) → pr (a + (Int32.ofInt 1))) (S : v_Sf) : u_P L xs n d m_X5_readTerm 0 (lv_args 0 [.ref 67, .int a]) [] S R (z_V R (fun S1 => g_readTermF e φS a S = S1)) := by
  refine w_readTermF L xs hE he pr φS hφS a (fun y1 y2 T => ∃ (k7 : Nat), k7 ≤ 240 ∧ z_i k7 = y2 ∧ a = y1 ∧ r_readTermF_7 e φS a (240 - k7) k7 T = F_readTermF e φS a S) (fun S1 => g_readTermF e φS a S = S1) ?_ n d S ?_
  · rintro _ _ S1 ⟨k7, hkk, rfl, rfl, e⟩
    unfold D_readTermF_7
    rcases Nat.lt_or_ge k7 (240) with hk | hk
    · rw [show 240 - k7 = (240 - (k7 + 1)) + 1 by omega, r_readTermF_7] at e
      refine ⟨fun q1 => ?_, fun q1 => ?_⟩
      · exact absurd hk (Nat.not_lt.mpr (z_leB2 (B := 240) q1 (by decide) (by omega)))
      · refine ⟨fun q2 => ?_, fun q2 => ?_⟩
        · refine ⟨hs, ?_⟩
          rw [if_pos q2] at e
          exact ⟨(k7 + 1), by omega, (z_i1 k7).symm, rfl, e⟩
        · refine ⟨fun q3 => ?_, fun q3 => ?_⟩
          · refine ⟨hs, ?_⟩
            rw [if_neg q2, if_pos q3] at e
            exact ⟨(k7 + 1), by omega, (z_i1 k7).symm, rfl, e⟩
          · refine ⟨fun q4 => ?_, fun q4 => ?_⟩
            · rw [if_neg q2, if_neg q3, if_pos q4] at e
              exact e.symm
            · refine ⟨hs, ?_⟩
              rw [if_neg q2, if_neg q3, if_neg q4] at e
              exact ⟨(k7 + 1), by omega, (z_i1 k7).symm, rfl, e⟩
    · rw [show 240 - k7 = 0 by omega, r_readTermF_7] at e
      refine ⟨fun q5 => ?_, fun q5 => ?_⟩
      · exact e.symm
      · exact absurd hk (Nat.not_le.mpr (z_ltB2 (B := 240) q5 (by decide) (by omega)))
  · unfold D_readTermF
    refine ⟨hs, ?_⟩
    have e : r_readTermF_7 e φS a (240 - 0) 0 (g_readFactorF e φS a S) = F_readTermF e φS a S := by rw [F_readTermF]
    exact ⟨0, by omega, rfl, rfl, e⟩
noncomputable def D_readSumF_7 (pr : Int32 → Prop) (e : Nat) (φS : Int32 → v_Sf → v_Sf) (H7 : Int32 → Int32 → v_Sf → Prop) (K : v_Sf → Prop) (x1 : Int32) (x2 : Int32) (S : v_Sf) : Prop := (((Int32.ofInt 240) ≤ x2 → K S) ∧ (¬ ((Int32.ofInt 240) ≤ x2) → (((f_X5_here S) = (Int32.ofInt 43) → ((x1 < (Int32.ofInt 6) → pr (x1 + (Int32.ofInt 1))) ∧ H7 x1 (x2 + (Int32.ofInt 1)) (g_X1_put e (f_X5_here S) (Int32.ofInt 0) (g_readTermF e φS x1 (z_s S 66 4 ((S 66 4) + (Int32.ofInt 1))))))) ∧ (¬ ((f_X5_here S) = (Int32.ofInt 43)) → (((¬ (f_X5_here S) = (Int32.ofInt 45)) → K S) ∧ (¬ (¬ (f_X5_here S) = (Int32.ofInt 45)) → ((x1 < (Int32.ofInt 6) → pr (x1 + (Int32.ofInt 1))) ∧ H7 x1 (x2 + (Int32.ofInt 1)) (g_X1_put e (f_X5_here S) (Int32.ofInt 0) (g_readTermF e φS x1 (z_s S 66 4 ((S 66 4) + (Int32.ofInt 1))))))))))))
noncomputable def D_readSumF (pr : Int32 → Prop) (e : Nat) (φS : Int32 → v_Sf → v_Sf) (a : Int32) (H7 : Int32 → Int32 → v_Sf → Prop) (K : v_Sf → Prop) (S : v_Sf) : Prop := ((a < (Int32.ofInt 6) → pr (a + (Int32.ofInt 1))) ∧ H7 a (Int32.ofInt 0) (g_readTermF e φS a S))
set_option maxRecDepth 4000 in
theorem hd_readSumF (L : Nat) (xs : Nat → Int32) {R : v_Rf} {e : Nat} (hE : R 66 1 = some (e + 1)) (he : z_cd e) (pr : Int32 → Prop) (φS : Int32 → v_Sf → v_Sf) (hφS : ∀ (n d : Nat) (i : Int32) (S : v_Sf), pr i → u_P L xs n d m_X5_readSum 0 (lv_args 0 [.ref 67, .int i]) [] S R (z_V R (fun S1 => φS i S = S1))) (a : Int32) (H7 : Int32 → Int32 → v_Sf → Prop) (K : v_Sf → Prop) (k7 : ∀ (x1 : Int32) (x2 : Int32) (S : v_Sf), H7 x1 x2 S → D_readSumF_7 pr e φS H7 K x1 x2 S) : ∀ n, (∀ (d : Nat) (x1 : Int32) (x2 : Int32) (S : v_Sf), H7 x1 x2 S → u_P L xs n d m_X5_readSum 7 [(0, .ref 67), (1, .int x1), (2, .int x2)] [] S R (z_V R K)) ∧ (∀ (d : Nat) (j3 : Int32) (x1 : Int32) (x2 : Int32) (S : v_Sf), H7 x1 x2 S → u_P L xs n d m_X5_readSum 7 [(0, .ref 67), (1, .int x1), (2, .int x2), (3, .int j3)] [] S R (z_V R K)) := by
  intro n
  induction n using Nat.strongRecOn with
  | ind n ih =>
    refine ⟨?_, ?_⟩
    · intro d x1 x2 S hD
      have hD := k7 x1 x2 S hD
      unfold D_readSumF_7 at hD
      show u_P L xs n d m_X5_readSum 7 [(0, .ref 67), (1, .int x1), (2, .int x2)] [] S R _
      refine u_st1 rfl (fun _ => rfl) (fun m hm => ?_)
      refine u_st rfl (fun _ => rfl) ?_
      show u_P L xs m d m_X5_readSum 11 [(0, .ref 67), (1, .int x1), (2, .int x2)] [.int (Int32.ofInt 240), .int x2] S R _
      refine u_ic_ge rfl (fun h1 => ?_) (fun h1 => ?_)
      · have hD := hD.1 h1
        show u_P L xs m d m_X5_readSum 68 [(0, .ref 67), (1, .int x1), (2, .int x2)] [] S R _
        exact u_ret rfl rfl ⟨rfl, rfl, hD⟩
      · have hD := hD.2 h1
        show u_P L xs m d m_X5_readSum 14 [(0, .ref 67), (1, .int x1), (2, .int x2)] [] S R _
        refine u_st rfl (fun _ => rfl) ?_
        show u_P L xs m d m_X5_readSum 15 [(0, .ref 67), (1, .int x1), (2, .int x2)] [.ref 67] S R _
        refine u_cv (rest := []) rfl (by decide) mt_X5_here rfl rfl rfl rfl (Nat.le_of_ble_eq_true rfl) (Nat.le_of_ble_eq_true rfl) (Nat.le_of_ble_eq_true rfl) (fun d' => c_X5_here L xs m d' S R) ?_
        rintro _ _ _ ⟨_, rfl, rfl, rfl, rfl⟩
        refine u_st rfl (fun _ => rfl) ?_
        show u_P L xs m d m_X5_readSum 20 [(0, .ref 67), (1, .int x1), (2, .int x2)] [.int (Int32.ofInt 43), .int (f_X5_here S)] S R _
        refine u_ic_eq rfl (fun h2 => ?_) (fun h2 => ?_)
        · have hD := hD.1 h2
          show u_P L xs m d m_X5_readSum 32 [(0, .ref 67), (1, .int x1), (2, .int x2)] [] S R _
          refine u_st rfl (fun _ => rfl) ?_
          show u_P L xs m d m_X5_readSum 33 [(0, .ref 67), (1, .int x1), (2, .int x2)] [.ref 67] S R _
          refine u_cv (rest := []) rfl (by decide) mt_X5_here rfl rfl rfl rfl (Nat.le_of_ble_eq_true rfl) (Nat.le_of_ble_eq_true rfl) (Nat.le_of_ble_eq_true rfl) (fun d' => c_X5_here L xs m d' S R) ?_
          rintro _ _ _ ⟨_, rfl, rfl, rfl, rfl⟩
          refine u_st rfl (fun _ => rfl) ?_
          refine u_st rfl (fun _ => rfl) ?_
          refine u_st rfl (fun _ => rfl) ?_
          show u_P L xs m d m_X5_readSum 39 [(3, .int (f_X5_here S)), (0, .ref 67), (1, .int x1), (2, .int x2)] [.ref 67, .ref 67] S R _
          refine u_getE (v := S 66 4) rfl rfl rfl rfl ?_
          refine u_st rfl (fun _ => rfl) ?_
          refine u_st rfl (fun _ => rfl) ?_
          show u_P L xs m d m_X5_readSum 44 [(3, .int (f_X5_here S)), (0, .ref 67), (1, .int x1), (2, .int x2)] [.int ((S 66 4) + (Int32.ofInt 1)), .ref 67] S R _
          refine u_put rfl rfl rfl ?_
          refine u_st rfl (fun _ => rfl) ?_
          refine u_st rfl (fun _ => rfl) ?_
          show u_P L xs m d m_X5_readSum 49 [(3, .int (f_X5_here S)), (0, .ref 67), (1, .int x1), (2, .int x2)] [.int x1, .ref 67] (z_s S 66 4 ((S 66 4) + (Int32.ofInt 1))) R _
          refine u_cv (rest := []) rfl (by decide) mt_X5_readTerm rfl rfl rfl rfl (Nat.le_of_ble_eq_true rfl) (Nat.le_of_ble_eq_true rfl) (Nat.le_of_ble_eq_true rfl) (fun d' => c_readTermF L xs m d' hE he pr φS hφS x1 hD.1 (z_s S 66 4 ((S 66 4) + (Int32.ofInt 1)))) ?_
          rintro _ _ _ ⟨rfl, rfl, rfl⟩
          have hD := hD.2
          show u_P L xs m d m_X5_readSum 52 [(3, .int (f_X5_here S)), (0, .ref 67), (1, .int x1), (2, .int x2)] [] (g_readTermF e φS x1 (z_s S 66 4 ((S 66 4) + (Int32.ofInt 1)))) R _
          refine u_st rfl (fun _ => rfl) ?_
          show u_P L xs m d m_X5_readSum 53 [(3, .int (f_X5_here S)), (0, .ref 67), (1, .int x1), (2, .int x2)] [.ref 67] (g_readTermF e φS x1 (z_s S 66 4 ((S 66 4) + (Int32.ofInt 1)))) R _
          refine u_getv rfl rfl rfl hE ?_
          refine u_st rfl (fun _ => rfl) ?_
          refine u_st rfl (fun _ => rfl) ?_
          show u_P L xs m d m_X5_readSum 58 [(3, .int (f_X5_here S)), (0, .ref 67), (1, .int x1), (2, .int x2)] [.int (Int32.ofInt 0), .int (f_X5_here S), .ref (e + 1)] (g_readTermF e φS x1 (z_s S 66 4 ((S 66 4) + (Int32.ofInt 1)))) R _
          refine u_cv (rest := []) rfl (by decide) mt_X1_put (z_cd0 he) rfl rfl rfl (Nat.le_of_ble_eq_true rfl) (Nat.le_of_ble_eq_true rfl) (Nat.le_of_ble_eq_true rfl) (fun d' => c_X1_put L xs m d' e he (f_X5_here S) (Int32.ofInt 0) (g_readTermF e φS x1 (z_s S 66 4 ((S 66 4) + (Int32.ofInt 1)))) R) ?_
          rintro _ _ _ ⟨_, rfl, rfl, rfl, rfl⟩
          refine u_st rfl (fun _ => rfl) ?_
          refine u_st rfl (fun _ => rfl) ?_
          refine u_st rfl (fun _ => rfl) ?_
          refine u_lc (b := [(0, .ref 67), (1, .int x1), (2, .int (x2 + (Int32.ofInt 1))), (3, .int (f_X5_here S))]) (show ([2, 3, 0, 1] : List Nat).Nodup by decide) (show ([0, 1, 2, 3] : List Nat).Nodup by decide) (fun i => match i with | 0 => rfl | 1 => rfl | 2 => rfl | 3 => rfl | _ + 4 => rfl) ?_
          exact (ih m hm).2 d (f_X5_here S) x1 (x2 + (Int32.ofInt 1)) (g_X1_put e (f_X5_here S) (Int32.ofInt 0) (g_readTermF e φS x1 (z_s S 66 4 ((S 66 4) + (Int32.ofInt 1))))) hD
        · have hD := hD.2 h2
          show u_P L xs m d m_X5_readSum 23 [(0, .ref 67), (1, .int x1), (2, .int x2)] [] S R _
          refine u_st rfl (fun _ => rfl) ?_
          show u_P L xs m d m_X5_readSum 24 [(0, .ref 67), (1, .int x1), (2, .int x2)] [.ref 67] S R _
          refine u_cv (rest := []) rfl (by decide) mt_X5_here rfl rfl rfl rfl (Nat.le_of_ble_eq_true rfl) (Nat.le_of_ble_eq_true rfl) (Nat.le_of_ble_eq_true rfl) (fun d' => c_X5_here L xs m d' S R) ?_
          rintro _ _ _ ⟨_, rfl, rfl, rfl, rfl⟩
          refine u_st rfl (fun _ => rfl) ?_
          show u_P L xs m d m_X5_readSum 29 [(0, .ref 67), (1, .int x1), (2, .int x2)] [.int (Int32.ofInt 45), .int (f_X5_here S)] S R _
          refine u_ic_ne rfl (fun h3 => ?_) (fun h3 => ?_)
          · have hD := hD.1 h3
            show u_P L xs m d m_X5_readSum 68 [(0, .ref 67), (1, .int x1), (2, .int x2)] [] S R _
            exact u_ret rfl rfl ⟨rfl, rfl, hD⟩
          · have hD := hD.2 h3
            show u_P L xs m d m_X5_readSum 32 [(0, .ref 67), (1, .int x1), (2, .int x2)] [] S R _
            refine u_st rfl (fun _ => rfl) ?_
            show u_P L xs m d m_X5_readSum 33 [(0, .ref 67), (1, .int x1), (2, .int x2)] [.ref 67] S R _
            refine u_cv (rest := []) rfl (by decide) mt_X5_here rfl rfl rfl rfl (Nat.le_of_ble_eq_true rfl) (Nat.le_of_ble_eq_true rfl) (Nat.le_of_ble_eq_true rfl) (fun d' => c_X5_here L xs m d' S R) ?_
            rintro _ _ _ ⟨_, rfl, rfl, rfl, rfl⟩
            refine u_st rfl (fun _ => rfl) ?_
            refine u_st rfl (fun _ => rfl) ?_
            refine u_st rfl (fun _ => rfl) ?_
            show u_P L xs m d m_X5_readSum 39 [(3, .int (f_X5_here S)), (0, .ref 67), (1, .int x1), (2, .int x2)] [.ref 67, .ref 67] S R _
            refine u_getE (v := S 66 4) rfl rfl rfl rfl ?_
            refine u_st rfl (fun _ => rfl) ?_
            refine u_st rfl (fun _ => rfl) ?_
            show u_P L xs m d m_X5_readSum 44 [(3, .int (f_X5_here S)), (0, .ref 67), (1, .int x1), (2, .int x2)] [.int ((S 66 4) + (Int32.ofInt 1)), .ref 67] S R _
            refine u_put rfl rfl rfl ?_
            refine u_st rfl (fun _ => rfl) ?_
            refine u_st rfl (fun _ => rfl) ?_
            show u_P L xs m d m_X5_readSum 49 [(3, .int (f_X5_here S)), (0, .ref 67), (1, .int x1), (2, .int x2)] [.int x1, .ref 67] (z_s S 66 4 ((S 66 4) + (Int32.ofInt 1))) R _
            refine u_cv (rest := []) rfl (by decide) mt_X5_readTerm rfl rfl rfl rfl (Nat.le_of_ble_eq_true rfl) (Nat.le_of_ble_eq_true rfl) (Nat.le_of_ble_eq_true rfl) (fun d' => c_readTermF L xs m d' hE he pr φS hφS x1 hD.1 (z_s S 66 4 ((S 66 4) + (Int32.ofInt 1)))) ?_
            rintro _ _ _ ⟨rfl, rfl, rfl⟩
            have hD := hD.2
            show u_P L xs m d m_X5_readSum 52 [(3, .int (f_X5_here S)), (0, .ref 67), (1, .int x1), (2, .int x2)] [] (g_readTermF e φS x1 (z_s S 66 4 ((S 66 4) + (Int32.ofInt 1)))) R _
            refine u_st rfl (fun _ => rfl) ?_
            show u_P L xs m d m_X5_readSum 53 [(3, .int (f_X5_here S)), (0, .ref 67), (1, .int x1), (2, .int x2)] [.ref 67] (g_readTermF e φS x1 (z_s S 66 4 ((S 66 4) + (Int32.ofInt 1)))) R _
            refine u_getv rfl rfl rfl hE ?_
            refine u_st rfl (fun _ => rfl) ?_
            refine u_st rfl (fun _ => rfl) ?_
            show u_P L xs m d m_X5_readSum 58 [(3, .int (f_X5_here S)), (0, .ref 67), (1, .int x1), (2, .int x2)] [.int (Int32.ofInt 0), .int (f_X5_here S), .ref (e + 1)] (g_readTermF e φS x1 (z_s S 66 4 ((S 66 4) + (Int32.ofInt 1)))) R _
            refine u_cv (rest := []) rfl (by decide) mt_X1_put (z_cd0 he) rfl rfl rfl (Nat.le_of_ble_eq_true rfl) (Nat.le_of_ble_eq_true rfl) (Nat.le_of_ble_eq_true rfl) (fun d' => c_X1_put L xs m d' e he (f_X5_here S) (Int32.ofInt 0) (g_readTermF e φS x1 (z_s S 66 4 ((S 66 4) + (Int32.ofInt 1)))) R) ?_
            rintro _ _ _ ⟨_, rfl, rfl, rfl, rfl⟩
            refine u_st rfl (fun _ => rfl) ?_
            refine u_st rfl (fun _ => rfl) ?_
            refine u_st rfl (fun _ => rfl) ?_
            refine u_lc (b := [(0, .ref 67), (1, .int x1), (2, .int (x2 + (Int32.ofInt 1))), (3, .int (f_X5_here S))]) (show ([2, 3, 0, 1] : List Nat).Nodup by decide) (show ([0, 1, 2, 3] : List Nat).Nodup by decide) (fun i => match i with | 0 => rfl | 1 => rfl | 2 => rfl | 3 => rfl | _ + 4 => rfl) ?_
            exact (ih m hm).2 d (f_X5_here S) x1 (x2 + (Int32.ofInt 1)) (g_X1_put e (f_X5_here S) (Int32.ofInt 0) (g_readTermF e φS x1 (z_s S 66 4 ((S 66 4) + (Int32.ofInt 1))))) hD
    · intro d j3 x1 x2 S hD
      have hD := k7 x1 x2 S hD
      unfold D_readSumF_7 at hD
      show u_P L xs n d m_X5_readSum 7 [(0, .ref 67), (1, .int x1), (2, .int x2), (3, .int j3)] [] S R _
      refine u_st1 rfl (fun _ => rfl) (fun m hm => ?_)
      refine u_st rfl (fun _ => rfl) ?_
      show u_P L xs m d m_X5_readSum 11 [(0, .ref 67), (1, .int x1), (2, .int x2), (3, .int j3)] [.int (Int32.ofInt 240), .int x2] S R _
      refine u_ic_ge rfl (fun h1 => ?_) (fun h1 => ?_)
      · have hD := hD.1 h1
        show u_P L xs m d m_X5_readSum 68 [(0, .ref 67), (1, .int x1), (2, .int x2), (3, .int j3)] [] S R _
        exact u_ret rfl rfl ⟨rfl, rfl, hD⟩
      · have hD := hD.2 h1
        show u_P L xs m d m_X5_readSum 14 [(0, .ref 67), (1, .int x1), (2, .int x2), (3, .int j3)] [] S R _
        refine u_st rfl (fun _ => rfl) ?_
        show u_P L xs m d m_X5_readSum 15 [(0, .ref 67), (1, .int x1), (2, .int x2), (3, .int j3)] [.ref 67] S R _
        refine u_cv (rest := []) rfl (by decide) mt_X5_here rfl rfl rfl rfl (Nat.le_of_ble_eq_true rfl) (Nat.le_of_ble_eq_true rfl) (Nat.le_of_ble_eq_true rfl) (fun d' => c_X5_here L xs m d' S R) ?_
        rintro _ _ _ ⟨_, rfl, rfl, rfl, rfl⟩
        refine u_st rfl (fun _ => rfl) ?_
        show u_P L xs m d m_X5_readSum 20 [(0, .ref 67), (1, .int x1), (2, .int x2), (3, .int j3)] [.int (Int32.ofInt 43), .int (f_X5_here S)] S R _
        refine u_ic_eq rfl (fun h2 => ?_) (fun h2 => ?_)
        · have hD := hD.1 h2
          show u_P L xs m d m_X5_readSum 32 [(0, .ref 67), (1, .int x1), (2, .int x2), (3, .int j3)] [] S R _
          refine u_st rfl (fun _ => rfl) ?_
          show u_P L xs m d m_X5_readSum 33 [(0, .ref 67), (1, .int x1), (2, .int x2), (3, .int j3)] [.ref 67] S R _
          refine u_cv (rest := []) rfl (by decide) mt_X5_here rfl rfl rfl rfl (Nat.le_of_ble_eq_true rfl) (Nat.le_of_ble_eq_true rfl) (Nat.le_of_ble_eq_true rfl) (fun d' => c_X5_here L xs m d' S R) ?_
          rintro _ _ _ ⟨_, rfl, rfl, rfl, rfl⟩
          refine u_st rfl (fun _ => rfl) ?_
          refine u_st rfl (fun _ => rfl) ?_
          refine u_st rfl (fun _ => rfl) ?_
          show u_P L xs m d m_X5_readSum 39 [(3, .int (f_X5_here S)), (0, .ref 67), (1, .int x1), (2, .int x2)] [.ref 67, .ref 67] S R _
          refine u_getE (v := S 66 4) rfl rfl rfl rfl ?_
          refine u_st rfl (fun _ => rfl) ?_
          refine u_st rfl (fun _ => rfl) ?_
          show u_P L xs m d m_X5_readSum 44 [(3, .int (f_X5_here S)), (0, .ref 67), (1, .int x1), (2, .int x2)] [.int ((S 66 4) + (Int32.ofInt 1)), .ref 67] S R _
          refine u_put rfl rfl rfl ?_
          refine u_st rfl (fun _ => rfl) ?_
          refine u_st rfl (fun _ => rfl) ?_
          show u_P L xs m d m_X5_readSum 49 [(3, .int (f_X5_here S)), (0, .ref 67), (1, .int x1), (2, .int x2)] [.int x1, .ref 67] (z_s S 66 4 ((S 66 4) + (Int32.ofInt 1))) R _
          refine u_cv (rest := []) rfl (by decide) mt_X5_readTerm rfl rfl rfl rfl (Nat.le_of_ble_eq_true rfl) (Nat.le_of_ble_eq_true rfl) (Nat.le_of_ble_eq_true rfl) (fun d' => c_readTermF L xs m d' hE he pr φS hφS x1 hD.1 (z_s S 66 4 ((S 66 4) + (Int32.ofInt 1)))) ?_
          rintro _ _ _ ⟨rfl, rfl, rfl⟩
          have hD := hD.2
          show u_P L xs m d m_X5_readSum 52 [(3, .int (f_X5_here S)), (0, .ref 67), (1, .int x1), (2, .int x2)] [] (g_readTermF e φS x1 (z_s S 66 4 ((S 66 4) + (Int32.ofInt 1)))) R _
          refine u_st rfl (fun _ => rfl) ?_
          show u_P L xs m d m_X5_readSum 53 [(3, .int (f_X5_here S)), (0, .ref 67), (1, .int x1), (2, .int x2)] [.ref 67] (g_readTermF e φS x1 (z_s S 66 4 ((S 66 4) + (Int32.ofInt 1)))) R _
          refine u_getv rfl rfl rfl hE ?_
          refine u_st rfl (fun _ => rfl) ?_
          refine u_st rfl (fun _ => rfl) ?_
          show u_P L xs m d m_X5_readSum 58 [(3, .int (f_X5_here S)), (0, .ref 67), (1, .int x1), (2, .int x2)] [.int (Int32.ofInt 0), .int (f_X5_here S), .ref (e + 1)] (g_readTermF e φS x1 (z_s S 66 4 ((S 66 4) + (Int32.ofInt 1)))) R _
          refine u_cv (rest := []) rfl (by decide) mt_X1_put (z_cd0 he) rfl rfl rfl (Nat.le_of_ble_eq_true rfl) (Nat.le_of_ble_eq_true rfl) (Nat.le_of_ble_eq_true rfl) (fun d' => c_X1_put L xs m d' e he (f_X5_here S) (Int32.ofInt 0) (g_readTermF e φS x1 (z_s S 66 4 ((S 66 4) + (Int32.ofInt 1)))) R) ?_
          rintro _ _ _ ⟨_, rfl, rfl, rfl, rfl⟩
          refine u_st rfl (fun _ => rfl) ?_
          refine u_st rfl (fun _ => rfl) ?_
          refine u_st rfl (fun _ => rfl) ?_
          refine u_lc (b := [(0, .ref 67), (1, .int x1), (2, .int (x2 + (Int32.ofInt 1))), (3, .int (f_X5_here S))]) (show ([2, 3, 0, 1] : List Nat).Nodup by decide) (show ([0, 1, 2, 3] : List Nat).Nodup by decide) (fun i => match i with | 0 => rfl | 1 => rfl | 2 => rfl | 3 => rfl | _ + 4 => rfl) ?_
          exact (ih m hm).2 d (f_X5_here S) x1 (x2 + (Int32.ofInt 1)) (g_X1_put e (f_X5_here S) (Int32.ofInt 0) (g_readTermF e φS x1 (z_s S 66 4 ((S 66 4) + (Int32.ofInt 1))))) hD
        · have hD := hD.2 h2
          show u_P L xs m d m_X5_readSum 23 [(0, .ref 67), (1, .int x1), (2, .int x2), (3, .int j3)] [] S R _
          refine u_st rfl (fun _ => rfl) ?_
          show u_P L xs m d m_X5_readSum 24 [(0, .ref 67), (1, .int x1), (2, .int x2), (3, .int j3)] [.ref 67] S R _
          refine u_cv (rest := []) rfl (by decide) mt_X5_here rfl rfl rfl rfl (Nat.le_of_ble_eq_true rfl) (Nat.le_of_ble_eq_true rfl) (Nat.le_of_ble_eq_true rfl) (fun d' => c_X5_here L xs m d' S R) ?_
          rintro _ _ _ ⟨_, rfl, rfl, rfl, rfl⟩
          refine u_st rfl (fun _ => rfl) ?_
          show u_P L xs m d m_X5_readSum 29 [(0, .ref 67), (1, .int x1), (2, .int x2), (3, .int j3)] [.int (Int32.ofInt 45), .int (f_X5_here S)] S R _
          refine u_ic_ne rfl (fun h3 => ?_) (fun h3 => ?_)
          · have hD := hD.1 h3
            show u_P L xs m d m_X5_readSum 68 [(0, .ref 67), (1, .int x1), (2, .int x2), (3, .int j3)] [] S R _
            exact u_ret rfl rfl ⟨rfl, rfl, hD⟩
          · have hD := hD.2 h3
            show u_P L xs m d m_X5_readSum 32 [(0, .ref 67), (1, .int x1), (2, .int x2), (3, .int j3)] [] S R _
            refine u_st rfl (fun _ => rfl) ?_
            show u_P L xs m d m_X5_readSum 33 [(0, .ref 67), (1, .int x1), (2, .int x2), (3, .int j3)] [.ref 67] S R _
            refine u_cv (rest := []) rfl (by decide) mt_X5_here rfl rfl rfl rfl (Nat.le_of_ble_eq_true rfl) (Nat.le_of_ble_eq_true rfl) (Nat.le_of_ble_eq_true rfl) (fun d' => c_X5_here L xs m d' S R) ?_
            rintro _ _ _ ⟨_, rfl, rfl, rfl, rfl⟩
            refine u_st rfl (fun _ => rfl) ?_
            refine u_st rfl (fun _ => rfl) ?_
            refine u_st rfl (fun _ => rfl) ?_
            show u_P L xs m d m_X5_readSum 39 [(3, .int (f_X5_here S)), (0, .ref 67), (1, .int x1), (2, .int x2)] [.ref 67, .ref 67] S R _
            refine u_getE (v := S 66 4) rfl rfl rfl rfl ?_
            refine u_st rfl (fun _ => rfl) ?_
            refine u_st rfl (fun _ => rfl) ?_
            show u_P L xs m d m_X5_readSum 44 [(3, .int (f_X5_here S)), (0, .ref 67), (1, .int x1), (2, .int x2)] [.int ((S 66 4) + (Int32.ofInt 1)), .ref 67] S R _
            refine u_put rfl rfl rfl ?_
            refine u_st rfl (fun _ => rfl) ?_
            refine u_st rfl (fun _ => rfl) ?_
            show u_P L xs m d m_X5_readSum 49 [(3, .int (f_X5_here S)), (0, .ref 67), (1, .int x1), (2, .int x2)] [.int x1, .ref 67] (z_s S 66 4 ((S 66 4) + (Int32.ofInt 1))) R _
            refine u_cv (rest := []) rfl (by decide) mt_X5_readTerm rfl rfl rfl rfl (Nat.le_of_ble_eq_true rfl) (Nat.le_of_ble_eq_true rfl) (Nat.le_of_ble_eq_true rfl) (fun d' => c_readTermF L xs m d' hE he pr φS hφS x1 hD.1 (z_s S 66 4 ((S 66 4) + (Int32.ofInt 1)))) ?_
            rintro _ _ _ ⟨rfl, rfl, rfl⟩
            have hD := hD.2
            show u_P L xs m d m_X5_readSum 52 [(3, .int (f_X5_here S)), (0, .ref 67), (1, .int x1), (2, .int x2)] [] (g_readTermF e φS x1 (z_s S 66 4 ((S 66 4) + (Int32.ofInt 1)))) R _
            refine u_st rfl (fun _ => rfl) ?_
            show u_P L xs m d m_X5_readSum 53 [(3, .int (f_X5_here S)), (0, .ref 67), (1, .int x1), (2, .int x2)] [.ref 67] (g_readTermF e φS x1 (z_s S 66 4 ((S 66 4) + (Int32.ofInt 1)))) R _
            refine u_getv rfl rfl rfl hE ?_
            refine u_st rfl (fun _ => rfl) ?_
            refine u_st rfl (fun _ => rfl) ?_
            show u_P L xs m d m_X5_readSum 58 [(3, .int (f_X5_here S)), (0, .ref 67), (1, .int x1), (2, .int x2)] [.int (Int32.ofInt 0), .int (f_X5_here S), .ref (e + 1)] (g_readTermF e φS x1 (z_s S 66 4 ((S 66 4) + (Int32.ofInt 1)))) R _
            refine u_cv (rest := []) rfl (by decide) mt_X1_put (z_cd0 he) rfl rfl rfl (Nat.le_of_ble_eq_true rfl) (Nat.le_of_ble_eq_true rfl) (Nat.le_of_ble_eq_true rfl) (fun d' => c_X1_put L xs m d' e he (f_X5_here S) (Int32.ofInt 0) (g_readTermF e φS x1 (z_s S 66 4 ((S 66 4) + (Int32.ofInt 1)))) R) ?_
            rintro _ _ _ ⟨_, rfl, rfl, rfl, rfl⟩
            refine u_st rfl (fun _ => rfl) ?_
            refine u_st rfl (fun _ => rfl) ?_
            refine u_st rfl (fun _ => rfl) ?_
            refine u_lc (b := [(0, .ref 67), (1, .int x1), (2, .int (x2 + (Int32.ofInt 1))), (3, .int (f_X5_here S))]) (show ([2, 3, 0, 1] : List Nat).Nodup by decide) (show ([0, 1, 2, 3] : List Nat).Nodup by decide) (fun i => match i with | 0 => rfl | 1 => rfl | 2 => rfl | 3 => rfl | _ + 4 => rfl) ?_
            exact (ih m hm).2 d (f_X5_here S) x1 (x2 + (Int32.ofInt 1)) (g_X1_put e (f_X5_here S) (Int32.ofInt 0) (g_readTermF e φS x1 (z_s S 66 4 ((S 66 4) + (Int32.ofInt 1))))) hD
set_option maxRecDepth 4000 in
theorem w_readSumF (L : Nat) (xs : Nat → Int32) {R : v_Rf} {e : Nat} (hE : R 66 1 = some (e + 1)) (he : z_cd e) (pr : Int32 → Prop) (φS : Int32 → v_Sf → v_Sf) (hφS : ∀ (n d : Nat) (i : Int32) (S : v_Sf), pr i → u_P L xs n d m_X5_readSum 0 (lv_args 0 [.ref 67, .int i]) [] S R (z_V R (fun S1 => φS i S = S1))) (a : Int32) (H7 : Int32 → Int32 → v_Sf → Prop) (K : v_Sf → Prop) (k7 : ∀ (x1 : Int32) (x2 : Int32) (S : v_Sf), H7 x1 x2 S → D_readSumF_7 pr e φS H7 K x1 x2 S) (n d : Nat) (S : v_Sf) (hD : D_readSumF pr e φS a H7 K S) : u_P L xs n d m_X5_readSum 0 (lv_args 0 [.ref 67, .int a]) [] S R (z_V R K) := by
  unfold D_readSumF at hD
  show u_P L xs n d m_X5_readSum 0 [(0, .ref 67), (1, .int a)] [] S R _
  refine u_st rfl (fun _ => rfl) ?_
  refine u_st rfl (fun _ => rfl) ?_
  show u_P L xs n d m_X5_readSum 2 [(0, .ref 67), (1, .int a)] [.int a, .ref 67] S R _
  refine u_cv (rest := []) rfl (by decide) mt_X5_readTerm rfl rfl rfl rfl (Nat.le_of_ble_eq_true rfl) (Nat.le_of_ble_eq_true rfl) (Nat.le_of_ble_eq_true rfl) (fun d' => c_readTermF L xs n d' hE he pr φS hφS a hD.1 S) ?_
  rintro _ _ _ ⟨rfl, rfl, rfl⟩
  have hD := hD.2
  show u_P L xs n d m_X5_readSum 5 [(0, .ref 67), (1, .int a)] [] (g_readTermF e φS a S) R _
  refine u_st rfl (fun _ => rfl) ?_
  refine u_st rfl (fun _ => rfl) ?_
  refine u_lc (b := [(0, .ref 67), (1, .int a), (2, .int (Int32.ofInt 0))]) (show ([2, 0, 1] : List Nat).Nodup by decide) (show ([0, 1, 2] : List Nat).Nodup by decide) (fun i => match i with | 0 => rfl | 1 => rfl | 2 => rfl | _ + 3 => rfl) ?_
  exact (hd_readSumF L xs hE he pr φS hφS a H7 K k7 n).1 d a (Int32.ofInt 0) (g_readTermF e φS a S) hD
noncomputable def r_readSumF_7 (e : Nat) (φS : Int32 → v_Sf → v_Sf) (x1 : Int32) : Nat → Nat → v_Sf → v_Sf
  | 0, k7, S => S
  | r + 1, k7, S => (if (f_X5_here S) = (Int32.ofInt 43) then r_readSumF_7 e φS x1 r (k7 + 1) (g_X1_put e (f_X5_here S) (Int32.ofInt 0) (g_readTermF e φS x1 (z_s S 66 4 ((S 66 4) + (Int32.ofInt 1))))) else (if ¬ (f_X5_here S) = (Int32.ofInt 45) then S else r_readSumF_7 e φS x1 r (k7 + 1) (g_X1_put e (f_X5_here S) (Int32.ofInt 0) (g_readTermF e φS x1 (z_s S 66 4 ((S 66 4) + (Int32.ofInt 1)))))))
noncomputable def F_readSumF (e : Nat) (φS : Int32 → v_Sf → v_Sf) (a : Int32) (S : v_Sf) : v_Sf := r_readSumF_7 e φS a (240 - 0) 0 (g_readTermF e φS a S)
noncomputable def g_readSumF (e : Nat) (φS : Int32 → v_Sf → v_Sf) (a : Int32) (S : v_Sf) : v_Sf := F_readSumF e φS a S
theorem c_readSumF (L : Nat) (xs : Nat → Int32) (n d : Nat) {R : v_Rf} {e : Nat} (hE : R 66 1 = some (e + 1)) (he : z_cd e) (pr : Int32 → Prop) (φS : Int32 → v_Sf → v_Sf) (hφS : ∀ (n d : Nat) (i : Int32) (S : v_Sf), pr i → u_P L xs n d m_X5_readSum 0 (lv_args 0 [.ref 67, .int i]) [] S R (z_V R (fun S1 => φS i S = S1))) (a : Int32) (hs : a < (Int32.ofInt 6) → pr (a + (Int32.ofInt 1))) (S : v_Sf) : u_P L xs n d m_X5_readSum 0 (lv_args 0 [.ref 67, .int a]) [] S R (z_V R (fun S1 => g_readSumF e φS a S = S1)) := by
  refine w_readSumF L xs hE he pr φS hφS a (fun y1 y2 T => ∃ (k7 : Nat), k7 ≤ 240 ∧ z_i k7 = y2 ∧ a = y1 ∧ r_readSumF_7 e φS a (240 - k7) k7 T = F_readSumF e φS a S) (fun S1 => g_readSumF e φS a S = S1) ?_ n d S ?_
  · rintro _ _ S1 ⟨k7, hkk, rfl, rfl, e⟩
    unfold D_readSumF_7
    rcases Nat.lt_or_ge k7 (240) with hk | hk
    · rw [show 240 - k7 = (240 - (k7 + 1)) + 1 by omega, r_readSumF_7] at e
      refine ⟨fun q1 => ?_, fun q1 => ?_⟩
      · exact absurd hk (Nat.not_lt.mpr (z_leB2 (B := 240) q1 (by decide) (by omega)))
      · refine ⟨fun q2 => ?_, fun q2 => ?_⟩
        · refine ⟨hs, ?_⟩
          rw [if_pos q2] at e
          exact ⟨(k7 + 1), by omega, (z_i1 k7).symm, rfl, e⟩
        · refine ⟨fun q3 => ?_, fun q3 => ?_⟩
          · rw [if_neg q2, if_pos q3] at e
            exact e.symm
          · refine ⟨hs, ?_⟩
            rw [if_neg q2, if_neg q3] at e
            exact ⟨(k7 + 1), by omega, (z_i1 k7).symm, rfl, e⟩
    · rw [show 240 - k7 = 0 by omega, r_readSumF_7] at e
      refine ⟨fun q4 => ?_, fun q4 => ?_⟩
      · exact e.symm
      · exact absurd hk (Nat.not_le.mpr (z_ltB2 (B := 240) q4 (by decide) (by omega)))
  · unfold D_readSumF
    refine ⟨hs, ?_⟩
    have e : r_readSumF_7 e φS a (240 - 0) 0 (g_readTermF e φS a S) = F_readSumF e φS a S := by rw [F_readSumF]
    exact ⟨0, by omega, rfl, rfl, e⟩
noncomputable abbrev m_X5_readBracket : g_M := (g_cn 5, yX5_readBracket, cX5_readBracket, 2, none, g_look2 ttX5_readBracket)
set_option maxRecDepth 20000 in
theorem mt_X5_readBracket : g_mt 70 = some m_X5_readBracket := rfl
noncomputable def D_readBracketF (pr : Int32 → Prop) (e : Nat) (φC : Int32 → v_Sf → v_Sf) (a : Int32)  (K : v_Sf → Prop) (S : v_Sf) : Prop := (((f_X5_here S) = (Int32.ofInt 40) → (((f_X5_opens a S) = 0 → K (g_X5_opens a S)) ∧ (¬ ((f_X5_opens a S) = 0) → (pr (a + (Int32.ofInt 1)) ∧ K (g_X5_expect (Int32.ofInt 41) (φC (a + (Int32.ofInt 1)) (g_X5_opens a S))))))) ∧ (¬ ((f_X5_here S) = (Int32.ofInt 40)) → K (g_X5_fail (Int32.ofInt 1) (S 66 4) S)))
set_option maxRecDepth 4000 in
theorem w_readBracketF (L : Nat) (xs : Nat → Int32) {R : v_Rf} {e : Nat} (hE : R 66 1 = some (e + 1)) (he : z_cd e) (pr : Int32 → Prop) (φC : Int32 → v_Sf → v_Sf) (hφC : ∀ (n d : Nat) (i : Int32) (S : v_Sf), pr i → u_P L xs n d m_X5_readCondition 0 (lv_args 0 [.ref 67, .int i]) [] S R (z_V R (fun S1 => φC i S = S1))) (a : Int32)  (K : v_Sf → Prop)  (n d : Nat) (S : v_Sf) (hD : D_readBracketF pr e φC a K S) : u_P L xs n d m_X5_readBracket 0 (lv_args 0 [.ref 67, .int a]) [] S R (z_V R K) := by
  unfold D_readBracketF at hD
  show u_P L xs n d m_X5_readBracket 0 [(0, .ref 67), (1, .int a)] [] S R _
  refine u_st rfl (fun _ => rfl) ?_
  show u_P L xs n d m_X5_readBracket 1 [(0, .ref 67), (1, .int a)] [.ref 67] S R _
  refine u_cv (rest := []) rfl (by decide) mt_X5_here rfl rfl rfl rfl (Nat.le_of_ble_eq_true rfl) (Nat.le_of_ble_eq_true rfl) (Nat.le_of_ble_eq_true rfl) (fun d' => c_X5_here L xs n d' S R) ?_
  rintro _ _ _ ⟨_, rfl, rfl, rfl, rfl⟩
  refine u_st rfl (fun _ => rfl) ?_
  show u_P L xs n d m_X5_readBracket 6 [(0, .ref 67), (1, .int a)] [.int (Int32.ofInt 40), .int (f_X5_here S)] S R _
  refine u_ic_eq rfl (fun h1 => ?_) (fun h1 => ?_)
  · have hD := hD.1 h1
    show u_P L xs n d m_X5_readBracket 21 [(0, .ref 67), (1, .int a)] [] S R _
    refine u_st rfl (fun _ => rfl) ?_
    refine u_st rfl (fun _ => rfl) ?_
    show u_P L xs n d m_X5_readBracket 23 [(0, .ref 67), (1, .int a)] [.int a, .ref 67] S R _
    refine u_cv (rest := []) rfl (by decide) mt_X5_opens rfl rfl rfl rfl (Nat.le_of_ble_eq_true rfl) (Nat.le_of_ble_eq_true rfl) (Nat.le_of_ble_eq_true rfl) (fun d' => c_X5_opens L xs n d' a S R) ?_
    rintro _ _ _ ⟨_, rfl, rfl, rfl, rfl⟩
    show u_P L xs n d m_X5_readBracket 26 [(0, .ref 67), (1, .int a)] [.int (f_X5_opens a S)] (g_X5_opens a S) R _
    refine u_if_eq rfl (fun h2 => ?_) (fun h2 => ?_)
    · have hD := hD.1 h2
      show u_P L xs n d m_X5_readBracket 42 [(0, .ref 67), (1, .int a)] [] (g_X5_opens a S) R _
      exact u_ret rfl rfl ⟨rfl, rfl, hD⟩
    · have hD := hD.2 h2
      show u_P L xs n d m_X5_readBracket 29 [(0, .ref 67), (1, .int a)] [] (g_X5_opens a S) R _
      refine u_st rfl (fun _ => rfl) ?_
      refine u_st rfl (fun _ => rfl) ?_
      refine u_st rfl (fun _ => rfl) ?_
      refine u_st rfl (fun _ => rfl) ?_
      show u_P L xs n d m_X5_readBracket 33 [(0, .ref 67), (1, .int a)] [.int (a + (Int32.ofInt 1)), .ref 67] (g_X5_opens a S) R _
      refine u_cv (rest := []) rfl (by decide) mt_X5_readCondition rfl rfl rfl rfl (Nat.le_of_ble_eq_true rfl) (Nat.le_of_ble_eq_true rfl) (Nat.le_of_ble_eq_true rfl) (fun d' => hφC n d' (a + (Int32.ofInt 1)) (g_X5_opens a S) hD.1) ?_
      rintro _ _ _ ⟨rfl, rfl, rfl⟩
      have hD := hD.2
      show u_P L xs n d m_X5_readBracket 36 [(0, .ref 67), (1, .int a)] [] (φC (a + (Int32.ofInt 1)) (g_X5_opens a S)) R _
      refine u_st rfl (fun _ => rfl) ?_
      refine u_st rfl (fun _ => rfl) ?_
      show u_P L xs n d m_X5_readBracket 39 [(0, .ref 67), (1, .int a)] [.int (Int32.ofInt 41), .ref 67] (φC (a + (Int32.ofInt 1)) (g_X5_opens a S)) R _
      refine u_cv (rest := []) rfl (by decide) mt_X5_expect rfl rfl rfl rfl (Nat.le_of_ble_eq_true rfl) (Nat.le_of_ble_eq_true rfl) (Nat.le_of_ble_eq_true rfl) (fun d' => c_X5_expect L xs n d' (Int32.ofInt 41) (φC (a + (Int32.ofInt 1)) (g_X5_opens a S)) R) ?_
      rintro _ _ _ ⟨rfl, rfl, rfl⟩
      show u_P L xs n d m_X5_readBracket 42 [(0, .ref 67), (1, .int a)] [] (g_X5_expect (Int32.ofInt 41) (φC (a + (Int32.ofInt 1)) (g_X5_opens a S))) R _
      exact u_ret rfl rfl ⟨rfl, rfl, hD⟩
  · have hD := hD.2 h1
    show u_P L xs n d m_X5_readBracket 9 [(0, .ref 67), (1, .int a)] [] S R _
    refine u_st rfl (fun _ => rfl) ?_
    refine u_st rfl (fun _ => rfl) ?_
    refine u_st rfl (fun _ => rfl) ?_
    show u_P L xs n d m_X5_readBracket 12 [(0, .ref 67), (1, .int a)] [.ref 67, .int (Int32.ofInt 1), .ref 67] S R _
    refine u_getE (v := S 66 4) rfl rfl rfl rfl ?_
    show u_P L xs n d m_X5_readBracket 15 [(0, .ref 67), (1, .int a)] [.int (S 66 4), .int (Int32.ofInt 1), .ref 67] S R _
    refine u_cv (rest := []) rfl (by decide) mt_X5_fail rfl rfl rfl rfl (Nat.le_of_ble_eq_true rfl) (Nat.le_of_ble_eq_true rfl) (Nat.le_of_ble_eq_true rfl) (fun d' => c_X5_fail L xs n d' (Int32.ofInt 1) (S 66 4) S R) ?_
    rintro _ _ _ ⟨rfl, rfl, rfl⟩
    refine u_st rfl (fun _ => rfl) ?_
    show u_P L xs n d m_X5_readBracket 42 [(0, .ref 67), (1, .int a)] [] (g_X5_fail (Int32.ofInt 1) (S 66 4) S) R _
    exact u_ret rfl rfl ⟨rfl, rfl, hD⟩
noncomputable def F_readBracketF (e : Nat) (φC : Int32 → v_Sf → v_Sf) (a : Int32) (S : v_Sf) : v_Sf := (if (f_X5_here S) = (Int32.ofInt 40) then (if (f_X5_opens a S) = 0 then g_X5_opens a S else g_X5_expect (Int32.ofInt 41) (φC (a + (Int32.ofInt 1)) (g_X5_opens a S))) else g_X5_fail (Int32.ofInt 1) (S 66 4) S)
noncomputable def g_readBracketF (e : Nat) (φC : Int32 → v_Sf → v_Sf) (a : Int32) (S : v_Sf) : v_Sf := F_readBracketF e φC a S
theorem c_readBracketF (L : Nat) (xs : Nat → Int32) (n d : Nat) {R : v_Rf} {e : Nat} (hE : R 66 1 = some (e + 1)) (he : z_cd e) (pr : Int32 → Prop) (φC : Int32 → v_Sf → v_Sf) (hφC : ∀ (n d : Nat) (i : Int32) (S : v_Sf), pr i → u_P L xs n d m_X5_readCondition 0 (lv_args 0 [.ref 67, .int i]) [] S R (z_V R (fun S1 => φC i S = S1))) (a : Int32) (hs : a < (Int32.ofInt 6) → pr (a + (Int32.ofInt 1))) (S : v_Sf) : u_P L xs n d m_X5_readBracket 0 (lv_args 0 [.ref 67, .int a]) [] S R (z_V R (fun S1 => g_readBracketF e φC a S = S1)) := by
  refine w_readBracketF L xs hE he pr φC hφC a  (fun S1 => g_readBracketF e φC a S = S1)  n d S ?_
  · unfold D_readBracketF
    refine ⟨fun q1 => ?_, fun q1 => ?_⟩
    · refine ⟨fun q2 => ?_, fun q2 => ?_⟩
      · have e : g_X5_opens a S = F_readBracketF e φC a S := by rw [F_readBracketF, if_pos q1, if_pos q2]
        exact e.symm
      · refine ⟨hs (z_op (by assumption)), ?_⟩
        have e : g_X5_expect (Int32.ofInt 41) (φC (a + (Int32.ofInt 1)) (g_X5_opens a S)) = F_readBracketF e φC a S := by rw [F_readBracketF, if_pos q1, if_neg q2]
        exact e.symm
    · have e : g_X5_fail (Int32.ofInt 1) (S 66 4) S = F_readBracketF e φC a S := by rw [F_readBracketF, if_neg q1]
      exact e.symm
noncomputable def D_readTestF (pr : Int32 → Prop) (e : Nat) (φS : Int32 → v_Sf → v_Sf) (φT : Int32 → v_Sf → v_Sf) (φC : Int32 → v_Sf → v_Sf) (a : Int32)  (K : v_Sf → Prop) (S : v_Sf) : Prop := (((¬ (f_X5_here S) = (Int32.ofInt 40)) → (((¬ (f_X5_here S) = (Int32.ofInt 33)) → ((a < (Int32.ofInt 6) → pr (a + (Int32.ofInt 1))) ∧ (((f_X5_here (g_readSumF e φS a S)) = (Int32.ofInt 60) → ((a < (Int32.ofInt 6) → pr (a + (Int32.ofInt 1))) ∧ K (g_X1_put e (f_X5_here (g_readSumF e φS a S)) (Int32.ofInt 0) (g_readSumF e φS a (z_s (g_readSumF e φS a S) 66 4 (((g_readSumF e φS a S) 66 4) + (Int32.ofInt 1))))))) ∧ (¬ ((f_X5_here (g_readSumF e φS a S)) = (Int32.ofInt 60)) → (((f_X5_here (g_readSumF e φS a S)) = (Int32.ofInt 62) → ((a < (Int32.ofInt 6) → pr (a + (Int32.ofInt 1))) ∧ K (g_X1_put e (f_X5_here (g_readSumF e φS a S)) (Int32.ofInt 0) (g_readSumF e φS a (z_s (g_readSumF e φS a S) 66 4 (((g_readSumF e φS a S) 66 4) + (Int32.ofInt 1))))))) ∧ (¬ ((f_X5_here (g_readSumF e φS a S)) = (Int32.ofInt 62)) → (((f_X5_here (g_readSumF e φS a S)) = (Int32.ofInt 61) → ((a < (Int32.ofInt 6) → pr (a + (Int32.ofInt 1))) ∧ K (g_X1_put e (f_X5_here (g_readSumF e φS a S)) (Int32.ofInt 0) (g_readSumF e φS a (z_s (g_readSumF e φS a S) 66 4 (((g_readSumF e φS a S) 66 4) + (Int32.ofInt 1))))))) ∧ (¬ ((f_X5_here (g_readSumF e φS a S)) = (Int32.ofInt 61)) → K (g_X5_fail (Int32.ofInt 1) ((g_readSumF e φS a S) 66 4) (g_readSumF e φS a S)))))))))) ∧ (¬ (¬ (f_X5_here S) = (Int32.ofInt 33)) → (((f_X5_opens a S) = 0 → K (g_X5_opens a S)) ∧ (¬ ((f_X5_opens a S) = 0) → (pr (a + (Int32.ofInt 1)) ∧ K (g_X1_put e (Int32.ofInt 3) (Int32.ofInt 0) (φT (a + (Int32.ofInt 1)) (g_X5_opens a S))))))))) ∧ (¬ (¬ (f_X5_here S) = (Int32.ofInt 40)) → ((a < (Int32.ofInt 6) → pr (a + (Int32.ofInt 1))) ∧ K (g_readBracketF e φC a S))))
set_option maxRecDepth 4000 in
theorem w_readTestF (L : Nat) (xs : Nat → Int32) {R : v_Rf} {e : Nat} (hE : R 66 1 = some (e + 1)) (he : z_cd e) (pr : Int32 → Prop) (φS : Int32 → v_Sf → v_Sf) (hφS : ∀ (n d : Nat) (i : Int32) (S : v_Sf), pr i → u_P L xs n d m_X5_readSum 0 (lv_args 0 [.ref 67, .int i]) [] S R (z_V R (fun S1 => φS i S = S1))) (φT : Int32 → v_Sf → v_Sf) (hφT : ∀ (n d : Nat) (i : Int32) (S : v_Sf), pr i → u_P L xs n d m_X5_readTest 0 (lv_args 0 [.ref 67, .int i]) [] S R (z_V R (fun S1 => φT i S = S1))) (φC : Int32 → v_Sf → v_Sf) (hφC : ∀ (n d : Nat) (i : Int32) (S : v_Sf), pr i → u_P L xs n d m_X5_readCondition 0 (lv_args 0 [.ref 67, .int i]) [] S R (z_V R (fun S1 => φC i S = S1))) (a : Int32)  (K : v_Sf → Prop)  (n d : Nat) (S : v_Sf) (hD : D_readTestF pr e φS φT φC a K S) : u_P L xs n d m_X5_readTest 0 (lv_args 0 [.ref 67, .int a]) [] S R (z_V R K) := by
  unfold D_readTestF at hD
  show u_P L xs n d m_X5_readTest 0 [(0, .ref 67), (1, .int a)] [] S R _
  refine u_st rfl (fun _ => rfl) ?_
  show u_P L xs n d m_X5_readTest 1 [(0, .ref 67), (1, .int a)] [.ref 67] S R _
  refine u_cv (rest := []) rfl (by decide) mt_X5_here rfl rfl rfl rfl (Nat.le_of_ble_eq_true rfl) (Nat.le_of_ble_eq_true rfl) (Nat.le_of_ble_eq_true rfl) (fun d' => c_X5_here L xs n d' S R) ?_
  rintro _ _ _ ⟨_, rfl, rfl, rfl, rfl⟩
  refine u_st rfl (fun _ => rfl) ?_
  refine u_st rfl (fun _ => rfl) ?_
  refine u_st rfl (fun _ => rfl) ?_
  show u_P L xs n d m_X5_readTest 8 [(2, .int (f_X5_here S)), (0, .ref 67), (1, .int a)] [.int (Int32.ofInt 40), .int (f_X5_here S)] S R _
  refine u_ic_ne rfl (fun h1 => ?_) (fun h1 => ?_)
  · have hD := hD.1 h1
    show u_P L xs n d m_X5_readTest 17 [(2, .int (f_X5_here S)), (0, .ref 67), (1, .int a)] [] S R _
    refine u_st rfl (fun _ => rfl) ?_
    refine u_st rfl (fun _ => rfl) ?_
    show u_P L xs n d m_X5_readTest 20 [(2, .int (f_X5_here S)), (0, .ref 67), (1, .int a)] [.int (Int32.ofInt 33), .int (f_X5_here S)] S R _
    refine u_ic_ne rfl (fun h2 => ?_) (fun h2 => ?_)
    · have hD := hD.1 h2
      show u_P L xs n d m_X5_readTest 49 [(2, .int (f_X5_here S)), (0, .ref 67), (1, .int a)] [] S R _
      refine u_st rfl (fun _ => rfl) ?_
      refine u_st rfl (fun _ => rfl) ?_
      show u_P L xs n d m_X5_readTest 51 [(2, .int (f_X5_here S)), (0, .ref 67), (1, .int a)] [.int a, .ref 67] S R _
      refine u_cv (rest := []) rfl (by decide) mt_X5_readSum rfl rfl rfl rfl (Nat.le_of_ble_eq_true rfl) (Nat.le_of_ble_eq_true rfl) (Nat.le_of_ble_eq_true rfl) (fun d' => c_readSumF L xs n d' hE he pr φS hφS a hD.1 S) ?_
      rintro _ _ _ ⟨rfl, rfl, rfl⟩
      have hD := hD.2
      show u_P L xs n d m_X5_readTest 54 [(2, .int (f_X5_here S)), (0, .ref 67), (1, .int a)] [] (g_readSumF e φS a S) R _
      refine u_st rfl (fun _ => rfl) ?_
      show u_P L xs n d m_X5_readTest 55 [(2, .int (f_X5_here S)), (0, .ref 67), (1, .int a)] [.ref 67] (g_readSumF e φS a S) R _
      refine u_cv (rest := []) rfl (by decide) mt_X5_here rfl rfl rfl rfl (Nat.le_of_ble_eq_true rfl) (Nat.le_of_ble_eq_true rfl) (Nat.le_of_ble_eq_true rfl) (fun d' => c_X5_here L xs n d' (g_readSumF e φS a S) R) ?_
      rintro _ _ _ ⟨_, rfl, rfl, rfl, rfl⟩
      refine u_st rfl (fun _ => rfl) ?_
      refine u_st rfl (fun _ => rfl) ?_
      refine u_st rfl (fun _ => rfl) ?_
      show u_P L xs n d m_X5_readTest 62 [(3, .int (f_X5_here (g_readSumF e φS a S))), (2, .int (f_X5_here S)), (0, .ref 67), (1, .int a)] [.int (Int32.ofInt 60), .int (f_X5_here (g_readSumF e φS a S))] (g_readSumF e φS a S) R _
      refine u_ic_eq rfl (fun h3 => ?_) (fun h3 => ?_)
      · have hD := hD.1 h3
        show u_P L xs n d m_X5_readTest 87 [(3, .int (f_X5_here (g_readSumF e φS a S))), (2, .int (f_X5_here S)), (0, .ref 67), (1, .int a)] [] (g_readSumF e φS a S) R _
        refine u_st rfl (fun _ => rfl) ?_
        refine u_st rfl (fun _ => rfl) ?_
        show u_P L xs n d m_X5_readTest 89 [(3, .int (f_X5_here (g_readSumF e φS a S))), (2, .int (f_X5_here S)), (0, .ref 67), (1, .int a)] [.ref 67, .ref 67] (g_readSumF e φS a S) R _
        refine u_getE (v := (g_readSumF e φS a S) 66 4) rfl rfl rfl rfl ?_
        refine u_st rfl (fun _ => rfl) ?_
        refine u_st rfl (fun _ => rfl) ?_
        show u_P L xs n d m_X5_readTest 94 [(3, .int (f_X5_here (g_readSumF e φS a S))), (2, .int (f_X5_here S)), (0, .ref 67), (1, .int a)] [.int (((g_readSumF e φS a S) 66 4) + (Int32.ofInt 1)), .ref 67] (g_readSumF e φS a S) R _
        refine u_put rfl rfl rfl ?_
        refine u_st rfl (fun _ => rfl) ?_
        refine u_st rfl (fun _ => rfl) ?_
        show u_P L xs n d m_X5_readTest 99 [(3, .int (f_X5_here (g_readSumF e φS a S))), (2, .int (f_X5_here S)), (0, .ref 67), (1, .int a)] [.int a, .ref 67] (z_s (g_readSumF e φS a S) 66 4 (((g_readSumF e φS a S) 66 4) + (Int32.ofInt 1))) R _
        refine u_cv (rest := []) rfl (by decide) mt_X5_readSum rfl rfl rfl rfl (Nat.le_of_ble_eq_true rfl) (Nat.le_of_ble_eq_true rfl) (Nat.le_of_ble_eq_true rfl) (fun d' => c_readSumF L xs n d' hE he pr φS hφS a hD.1 (z_s (g_readSumF e φS a S) 66 4 (((g_readSumF e φS a S) 66 4) + (Int32.ofInt 1)))) ?_
        rintro _ _ _ ⟨rfl, rfl, rfl⟩
        have hD := hD.2
        show u_P L xs n d m_X5_readTest 102 [(3, .int (f_X5_here (g_readSumF e φS a S))), (2, .int (f_X5_here S)), (0, .ref 67), (1, .int a)] [] (g_readSumF e φS a (z_s (g_readSumF e φS a S) 66 4 (((g_readSumF e φS a S) 66 4) + (Int32.ofInt 1)))) R _
        refine u_st rfl (fun _ => rfl) ?_
        show u_P L xs n d m_X5_readTest 103 [(3, .int (f_X5_here (g_readSumF e φS a S))), (2, .int (f_X5_here S)), (0, .ref 67), (1, .int a)] [.ref 67] (g_readSumF e φS a (z_s (g_readSumF e φS a S) 66 4 (((g_readSumF e φS a S) 66 4) + (Int32.ofInt 1)))) R _
        refine u_getv rfl rfl rfl hE ?_
        refine u_st rfl (fun _ => rfl) ?_
        refine u_st rfl (fun _ => rfl) ?_
        show u_P L xs n d m_X5_readTest 108 [(3, .int (f_X5_here (g_readSumF e φS a S))), (2, .int (f_X5_here S)), (0, .ref 67), (1, .int a)] [.int (Int32.ofInt 0), .int (f_X5_here (g_readSumF e φS a S)), .ref (e + 1)] (g_readSumF e φS a (z_s (g_readSumF e φS a S) 66 4 (((g_readSumF e φS a S) 66 4) + (Int32.ofInt 1)))) R _
        refine u_cv (rest := []) rfl (by decide) mt_X1_put (z_cd0 he) rfl rfl rfl (Nat.le_of_ble_eq_true rfl) (Nat.le_of_ble_eq_true rfl) (Nat.le_of_ble_eq_true rfl) (fun d' => c_X1_put L xs n d' e he (f_X5_here (g_readSumF e φS a S)) (Int32.ofInt 0) (g_readSumF e φS a (z_s (g_readSumF e φS a S) 66 4 (((g_readSumF e φS a S) 66 4) + (Int32.ofInt 1)))) R) ?_
        rintro _ _ _ ⟨_, rfl, rfl, rfl, rfl⟩
        refine u_st rfl (fun _ => rfl) ?_
        show u_P L xs n d m_X5_readTest 112 [(3, .int (f_X5_here (g_readSumF e φS a S))), (2, .int (f_X5_here S)), (0, .ref 67), (1, .int a)] [] (g_X1_put e (f_X5_here (g_readSumF e φS a S)) (Int32.ofInt 0) (g_readSumF e φS a (z_s (g_readSumF e φS a S) 66 4 (((g_readSumF e φS a S) 66 4) + (Int32.ofInt 1))))) R _
        exact u_ret rfl rfl ⟨rfl, rfl, hD⟩
      · have hD := hD.2 h3
        show u_P L xs n d m_X5_readTest 65 [(3, .int (f_X5_here (g_readSumF e φS a S))), (2, .int (f_X5_here S)), (0, .ref 67), (1, .int a)] [] (g_readSumF e φS a S) R _
        refine u_st rfl (fun _ => rfl) ?_
        refine u_st rfl (fun _ => rfl) ?_
        show u_P L xs n d m_X5_readTest 68 [(3, .int (f_X5_here (g_readSumF e φS a S))), (2, .int (f_X5_here S)), (0, .ref 67), (1, .int a)] [.int (Int32.ofInt 62), .int (f_X5_here (g_readSumF e φS a S))] (g_readSumF e φS a S) R _
        refine u_ic_eq rfl (fun h4 => ?_) (fun h4 => ?_)
        · have hD := hD.1 h4
          show u_P L xs n d m_X5_readTest 87 [(3, .int (f_X5_here (g_readSumF e φS a S))), (2, .int (f_X5_here S)), (0, .ref 67), (1, .int a)] [] (g_readSumF e φS a S) R _
          refine u_st rfl (fun _ => rfl) ?_
          refine u_st rfl (fun _ => rfl) ?_
          show u_P L xs n d m_X5_readTest 89 [(3, .int (f_X5_here (g_readSumF e φS a S))), (2, .int (f_X5_here S)), (0, .ref 67), (1, .int a)] [.ref 67, .ref 67] (g_readSumF e φS a S) R _
          refine u_getE (v := (g_readSumF e φS a S) 66 4) rfl rfl rfl rfl ?_
          refine u_st rfl (fun _ => rfl) ?_
          refine u_st rfl (fun _ => rfl) ?_
          show u_P L xs n d m_X5_readTest 94 [(3, .int (f_X5_here (g_readSumF e φS a S))), (2, .int (f_X5_here S)), (0, .ref 67), (1, .int a)] [.int (((g_readSumF e φS a S) 66 4) + (Int32.ofInt 1)), .ref 67] (g_readSumF e φS a S) R _
          refine u_put rfl rfl rfl ?_
          refine u_st rfl (fun _ => rfl) ?_
          refine u_st rfl (fun _ => rfl) ?_
          show u_P L xs n d m_X5_readTest 99 [(3, .int (f_X5_here (g_readSumF e φS a S))), (2, .int (f_X5_here S)), (0, .ref 67), (1, .int a)] [.int a, .ref 67] (z_s (g_readSumF e φS a S) 66 4 (((g_readSumF e φS a S) 66 4) + (Int32.ofInt 1))) R _
          refine u_cv (rest := []) rfl (by decide) mt_X5_readSum rfl rfl rfl rfl (Nat.le_of_ble_eq_true rfl) (Nat.le_of_ble_eq_true rfl) (Nat.le_of_ble_eq_true rfl) (fun d' => c_readSumF L xs n d' hE he pr φS hφS a hD.1 (z_s (g_readSumF e φS a S) 66 4 (((g_readSumF e φS a S) 66 4) + (Int32.ofInt 1)))) ?_
          rintro _ _ _ ⟨rfl, rfl, rfl⟩
          have hD := hD.2
          show u_P L xs n d m_X5_readTest 102 [(3, .int (f_X5_here (g_readSumF e φS a S))), (2, .int (f_X5_here S)), (0, .ref 67), (1, .int a)] [] (g_readSumF e φS a (z_s (g_readSumF e φS a S) 66 4 (((g_readSumF e φS a S) 66 4) + (Int32.ofInt 1)))) R _
          refine u_st rfl (fun _ => rfl) ?_
          show u_P L xs n d m_X5_readTest 103 [(3, .int (f_X5_here (g_readSumF e φS a S))), (2, .int (f_X5_here S)), (0, .ref 67), (1, .int a)] [.ref 67] (g_readSumF e φS a (z_s (g_readSumF e φS a S) 66 4 (((g_readSumF e φS a S) 66 4) + (Int32.ofInt 1)))) R _
          refine u_getv rfl rfl rfl hE ?_
          refine u_st rfl (fun _ => rfl) ?_
          refine u_st rfl (fun _ => rfl) ?_
          show u_P L xs n d m_X5_readTest 108 [(3, .int (f_X5_here (g_readSumF e φS a S))), (2, .int (f_X5_here S)), (0, .ref 67), (1, .int a)] [.int (Int32.ofInt 0), .int (f_X5_here (g_readSumF e φS a S)), .ref (e + 1)] (g_readSumF e φS a (z_s (g_readSumF e φS a S) 66 4 (((g_readSumF e φS a S) 66 4) + (Int32.ofInt 1)))) R _
          refine u_cv (rest := []) rfl (by decide) mt_X1_put (z_cd0 he) rfl rfl rfl (Nat.le_of_ble_eq_true rfl) (Nat.le_of_ble_eq_true rfl) (Nat.le_of_ble_eq_true rfl) (fun d' => c_X1_put L xs n d' e he (f_X5_here (g_readSumF e φS a S)) (Int32.ofInt 0) (g_readSumF e φS a (z_s (g_readSumF e φS a S) 66 4 (((g_readSumF e φS a S) 66 4) + (Int32.ofInt 1)))) R) ?_
          rintro _ _ _ ⟨_, rfl, rfl, rfl, rfl⟩
          refine u_st rfl (fun _ => rfl) ?_
          show u_P L xs n d m_X5_readTest 112 [(3, .int (f_X5_here (g_readSumF e φS a S))), (2, .int (f_X5_here S)), (0, .ref 67), (1, .int a)] [] (g_X1_put e (f_X5_here (g_readSumF e φS a S)) (Int32.ofInt 0) (g_readSumF e φS a (z_s (g_readSumF e φS a S) 66 4 (((g_readSumF e φS a S) 66 4) + (Int32.ofInt 1))))) R _
          exact u_ret rfl rfl ⟨rfl, rfl, hD⟩
        · have hD := hD.2 h4
          show u_P L xs n d m_X5_readTest 71 [(3, .int (f_X5_here (g_readSumF e φS a S))), (2, .int (f_X5_here S)), (0, .ref 67), (1, .int a)] [] (g_readSumF e φS a S) R _
          refine u_st rfl (fun _ => rfl) ?_
          refine u_st rfl (fun _ => rfl) ?_
          show u_P L xs n d m_X5_readTest 74 [(3, .int (f_X5_here (g_readSumF e φS a S))), (2, .int (f_X5_here S)), (0, .ref 67), (1, .int a)] [.int (Int32.ofInt 61), .int (f_X5_here (g_readSumF e φS a S))] (g_readSumF e φS a S) R _
          refine u_ic_eq rfl (fun h5 => ?_) (fun h5 => ?_)
          · have hD := hD.1 h5
            show u_P L xs n d m_X5_readTest 87 [(3, .int (f_X5_here (g_readSumF e φS a S))), (2, .int (f_X5_here S)), (0, .ref 67), (1, .int a)] [] (g_readSumF e φS a S) R _
            refine u_st rfl (fun _ => rfl) ?_
            refine u_st rfl (fun _ => rfl) ?_
            show u_P L xs n d m_X5_readTest 89 [(3, .int (f_X5_here (g_readSumF e φS a S))), (2, .int (f_X5_here S)), (0, .ref 67), (1, .int a)] [.ref 67, .ref 67] (g_readSumF e φS a S) R _
            refine u_getE (v := (g_readSumF e φS a S) 66 4) rfl rfl rfl rfl ?_
            refine u_st rfl (fun _ => rfl) ?_
            refine u_st rfl (fun _ => rfl) ?_
            show u_P L xs n d m_X5_readTest 94 [(3, .int (f_X5_here (g_readSumF e φS a S))), (2, .int (f_X5_here S)), (0, .ref 67), (1, .int a)] [.int (((g_readSumF e φS a S) 66 4) + (Int32.ofInt 1)), .ref 67] (g_readSumF e φS a S) R _
            refine u_put rfl rfl rfl ?_
            refine u_st rfl (fun _ => rfl) ?_
            refine u_st rfl (fun _ => rfl) ?_
            show u_P L xs n d m_X5_readTest 99 [(3, .int (f_X5_here (g_readSumF e φS a S))), (2, .int (f_X5_here S)), (0, .ref 67), (1, .int a)] [.int a, .ref 67] (z_s (g_readSumF e φS a S) 66 4 (((g_readSumF e φS a S) 66 4) + (Int32.ofInt 1))) R _
            refine u_cv (rest := []) rfl (by decide) mt_X5_readSum rfl rfl rfl rfl (Nat.le_of_ble_eq_true rfl) (Nat.le_of_ble_eq_true rfl) (Nat.le_of_ble_eq_true rfl) (fun d' => c_readSumF L xs n d' hE he pr φS hφS a hD.1 (z_s (g_readSumF e φS a S) 66 4 (((g_readSumF e φS a S) 66 4) + (Int32.ofInt 1)))) ?_
            rintro _ _ _ ⟨rfl, rfl, rfl⟩
            have hD := hD.2
            show u_P L xs n d m_X5_readTest 102 [(3, .int (f_X5_here (g_readSumF e φS a S))), (2, .int (f_X5_here S)), (0, .ref 67), (1, .int a)] [] (g_readSumF e φS a (z_s (g_readSumF e φS a S) 66 4 (((g_readSumF e φS a S) 66 4) + (Int32.ofInt 1)))) R _
            refine u_st rfl (fun _ => rfl) ?_
            show u_P L xs n d m_X5_readTest 103 [(3, .int (f_X5_here (g_readSumF e φS a S))), (2, .int (f_X5_here S)), (0, .ref 67), (1, .int a)] [.ref 67] (g_readSumF e φS a (z_s (g_readSumF e φS a S) 66 4 (((g_readSumF e φS a S) 66 4) + (Int32.ofInt 1)))) R _
            refine u_getv rfl rfl rfl hE ?_
            refine u_st rfl (fun _ => rfl) ?_
            refine u_st rfl (fun _ => rfl) ?_
            show u_P L xs n d m_X5_readTest 108 [(3, .int (f_X5_here (g_readSumF e φS a S))), (2, .int (f_X5_here S)), (0, .ref 67), (1, .int a)] [.int (Int32.ofInt 0), .int (f_X5_here (g_readSumF e φS a S)), .ref (e + 1)] (g_readSumF e φS a (z_s (g_readSumF e φS a S) 66 4 (((g_readSumF e φS a S) 66 4) + (Int32.ofInt 1)))) R _
            refine u_cv (rest := []) rfl (by decide) mt_X1_put (z_cd0 he) rfl rfl rfl (Nat.le_of_ble_eq_true rfl) (Nat.le_of_ble_eq_true rfl) (Nat.le_of_ble_eq_true rfl) (fun d' => c_X1_put L xs n d' e he (f_X5_here (g_readSumF e φS a S)) (Int32.ofInt 0) (g_readSumF e φS a (z_s (g_readSumF e φS a S) 66 4 (((g_readSumF e φS a S) 66 4) + (Int32.ofInt 1)))) R) ?_
            rintro _ _ _ ⟨_, rfl, rfl, rfl, rfl⟩
            refine u_st rfl (fun _ => rfl) ?_
            show u_P L xs n d m_X5_readTest 112 [(3, .int (f_X5_here (g_readSumF e φS a S))), (2, .int (f_X5_here S)), (0, .ref 67), (1, .int a)] [] (g_X1_put e (f_X5_here (g_readSumF e φS a S)) (Int32.ofInt 0) (g_readSumF e φS a (z_s (g_readSumF e φS a S) 66 4 (((g_readSumF e φS a S) 66 4) + (Int32.ofInt 1))))) R _
            exact u_ret rfl rfl ⟨rfl, rfl, hD⟩
          · have hD := hD.2 h5
            show u_P L xs n d m_X5_readTest 77 [(3, .int (f_X5_here (g_readSumF e φS a S))), (2, .int (f_X5_here S)), (0, .ref 67), (1, .int a)] [] (g_readSumF e φS a S) R _
            refine u_st rfl (fun _ => rfl) ?_
            refine u_st rfl (fun _ => rfl) ?_
            refine u_st rfl (fun _ => rfl) ?_
            show u_P L xs n d m_X5_readTest 80 [(3, .int (f_X5_here (g_readSumF e φS a S))), (2, .int (f_X5_here S)), (0, .ref 67), (1, .int a)] [.ref 67, .int (Int32.ofInt 1), .ref 67] (g_readSumF e φS a S) R _
            refine u_getE (v := (g_readSumF e φS a S) 66 4) rfl rfl rfl rfl ?_
            show u_P L xs n d m_X5_readTest 83 [(3, .int (f_X5_here (g_readSumF e φS a S))), (2, .int (f_X5_here S)), (0, .ref 67), (1, .int a)] [.int ((g_readSumF e φS a S) 66 4), .int (Int32.ofInt 1), .ref 67] (g_readSumF e φS a S) R _
            refine u_cv (rest := []) rfl (by decide) mt_X5_fail rfl rfl rfl rfl (Nat.le_of_ble_eq_true rfl) (Nat.le_of_ble_eq_true rfl) (Nat.le_of_ble_eq_true rfl) (fun d' => c_X5_fail L xs n d' (Int32.ofInt 1) ((g_readSumF e φS a S) 66 4) (g_readSumF e φS a S) R) ?_
            rintro _ _ _ ⟨rfl, rfl, rfl⟩
            show u_P L xs n d m_X5_readTest 86 [(3, .int (f_X5_here (g_readSumF e φS a S))), (2, .int (f_X5_here S)), (0, .ref 67), (1, .int a)] [] (g_X5_fail (Int32.ofInt 1) ((g_readSumF e φS a S) 66 4) (g_readSumF e φS a S)) R _
            exact u_ret rfl rfl ⟨rfl, rfl, hD⟩
    · have hD := hD.2 h2
      show u_P L xs n d m_X5_readTest 23 [(2, .int (f_X5_here S)), (0, .ref 67), (1, .int a)] [] S R _
      refine u_st rfl (fun _ => rfl) ?_
      refine u_st rfl (fun _ => rfl) ?_
      show u_P L xs n d m_X5_readTest 25 [(2, .int (f_X5_here S)), (0, .ref 67), (1, .int a)] [.int a, .ref 67] S R _
      refine u_cv (rest := []) rfl (by decide) mt_X5_opens rfl rfl rfl rfl (Nat.le_of_ble_eq_true rfl) (Nat.le_of_ble_eq_true rfl) (Nat.le_of_ble_eq_true rfl) (fun d' => c_X5_opens L xs n d' a S R) ?_
      rintro _ _ _ ⟨_, rfl, rfl, rfl, rfl⟩
      show u_P L xs n d m_X5_readTest 28 [(2, .int (f_X5_here S)), (0, .ref 67), (1, .int a)] [.int (f_X5_opens a S)] (g_X5_opens a S) R _
      refine u_if_eq rfl (fun h6 => ?_) (fun h6 => ?_)
      · have hD := hD.1 h6
        show u_P L xs n d m_X5_readTest 48 [(2, .int (f_X5_here S)), (0, .ref 67), (1, .int a)] [] (g_X5_opens a S) R _
        exact u_ret rfl rfl ⟨rfl, rfl, hD⟩
      · have hD := hD.2 h6
        show u_P L xs n d m_X5_readTest 31 [(2, .int (f_X5_here S)), (0, .ref 67), (1, .int a)] [] (g_X5_opens a S) R _
        refine u_st rfl (fun _ => rfl) ?_
        refine u_st rfl (fun _ => rfl) ?_
        refine u_st rfl (fun _ => rfl) ?_
        refine u_st rfl (fun _ => rfl) ?_
        show u_P L xs n d m_X5_readTest 35 [(2, .int (f_X5_here S)), (0, .ref 67), (1, .int a)] [.int (a + (Int32.ofInt 1)), .ref 67] (g_X5_opens a S) R _
        refine u_cv (rest := []) rfl (by decide) mt_X5_readTest rfl rfl rfl rfl (Nat.le_of_ble_eq_true rfl) (Nat.le_of_ble_eq_true rfl) (Nat.le_of_ble_eq_true rfl) (fun d' => hφT n d' (a + (Int32.ofInt 1)) (g_X5_opens a S) hD.1) ?_
        rintro _ _ _ ⟨rfl, rfl, rfl⟩
        have hD := hD.2
        show u_P L xs n d m_X5_readTest 38 [(2, .int (f_X5_here S)), (0, .ref 67), (1, .int a)] [] (φT (a + (Int32.ofInt 1)) (g_X5_opens a S)) R _
        refine u_st rfl (fun _ => rfl) ?_
        show u_P L xs n d m_X5_readTest 39 [(2, .int (f_X5_here S)), (0, .ref 67), (1, .int a)] [.ref 67] (φT (a + (Int32.ofInt 1)) (g_X5_opens a S)) R _
        refine u_getv rfl rfl rfl hE ?_
        refine u_st rfl (fun _ => rfl) ?_
        refine u_st rfl (fun _ => rfl) ?_
        show u_P L xs n d m_X5_readTest 44 [(2, .int (f_X5_here S)), (0, .ref 67), (1, .int a)] [.int (Int32.ofInt 0), .int (Int32.ofInt 3), .ref (e + 1)] (φT (a + (Int32.ofInt 1)) (g_X5_opens a S)) R _
        refine u_cv (rest := []) rfl (by decide) mt_X1_put (z_cd0 he) rfl rfl rfl (Nat.le_of_ble_eq_true rfl) (Nat.le_of_ble_eq_true rfl) (Nat.le_of_ble_eq_true rfl) (fun d' => c_X1_put L xs n d' e he (Int32.ofInt 3) (Int32.ofInt 0) (φT (a + (Int32.ofInt 1)) (g_X5_opens a S)) R) ?_
        rintro _ _ _ ⟨_, rfl, rfl, rfl, rfl⟩
        refine u_st rfl (fun _ => rfl) ?_
        show u_P L xs n d m_X5_readTest 48 [(2, .int (f_X5_here S)), (0, .ref 67), (1, .int a)] [] (g_X1_put e (Int32.ofInt 3) (Int32.ofInt 0) (φT (a + (Int32.ofInt 1)) (g_X5_opens a S))) R _
        exact u_ret rfl rfl ⟨rfl, rfl, hD⟩
  · have hD := hD.2 h1
    show u_P L xs n d m_X5_readTest 11 [(2, .int (f_X5_here S)), (0, .ref 67), (1, .int a)] [] S R _
    refine u_st rfl (fun _ => rfl) ?_
    refine u_st rfl (fun _ => rfl) ?_
    show u_P L xs n d m_X5_readTest 13 [(2, .int (f_X5_here S)), (0, .ref 67), (1, .int a)] [.int a, .ref 67] S R _
    refine u_cv (rest := []) rfl (by decide) mt_X5_readBracket rfl rfl rfl rfl (Nat.le_of_ble_eq_true rfl) (Nat.le_of_ble_eq_true rfl) (Nat.le_of_ble_eq_true rfl) (fun d' => c_readBracketF L xs n d' hE he pr φC hφC a hD.1 S) ?_
    rintro _ _ _ ⟨rfl, rfl, rfl⟩
    have hD := hD.2
    show u_P L xs n d m_X5_readTest 16 [(2, .int (f_X5_here S)), (0, .ref 67), (1, .int a)] [] (g_readBracketF e φC a S) R _
    exact u_ret rfl rfl ⟨rfl, rfl, hD⟩
noncomputable def F_readTestF (e : Nat) (φS : Int32 → v_Sf → v_Sf) (φT : Int32 → v_Sf → v_Sf) (φC : Int32 → v_Sf → v_Sf) (a : Int32) (S : v_Sf) : v_Sf := (if ¬ (f_X5_here S) = (Int32.ofInt 40) then (if ¬ (f_X5_here S) = (Int32.ofInt 33) then (if (f_X5_here (g_readSumF e φS a S)) = (Int32.ofInt 60) then g_X1_put e (f_X5_here (g_readSumF e φS a S)) (Int32.ofInt 0) (g_readSumF e φS a (z_s (g_readSumF e φS a S) 66 4 (((g_readSumF e φS a S) 66 4) + (Int32.ofInt 1)))) else (if (f_X5_here (g_readSumF e φS a S)) = (Int32.ofInt 62) then g_X1_put e (f_X5_here (g_readSumF e φS a S)) (Int32.ofInt 0) (g_readSumF e φS a (z_s (g_readSumF e φS a S) 66 4 (((g_readSumF e φS a S) 66 4) + (Int32.ofInt 1)))) else (if (f_X5_here (g_readSumF e φS a S)) = (Int32.ofInt 61) then g_X1_put e (f_X5_here (g_readSumF e φS a S)) (Int32.ofInt 0) (g_readSumF e φS a (z_s (g_readSumF e φS a S) 66 4 (((g_readSumF e φS a S) 66 4) + (Int32.ofInt 1)))) else g_X5_fail (Int32.ofInt 1) ((g_readSumF e φS a S) 66 4) (g_readSumF e φS a S)))) else (if (f_X5_opens a S) = 0 then g_X5_opens a S else g_X1_put e (Int32.ofInt 3) (Int32.ofInt 0) (φT (a + (Int32.ofInt 1)) (g_X5_opens a S)))) else g_readBracketF e φC a S)
noncomputable def g_readTestF (e : Nat) (φS : Int32 → v_Sf → v_Sf) (φT : Int32 → v_Sf → v_Sf) (φC : Int32 → v_Sf → v_Sf) (a : Int32) (S : v_Sf) : v_Sf := F_readTestF e φS φT φC a S
theorem c_readTestF (L : Nat) (xs : Nat → Int32) (n d : Nat) {R : v_Rf} {e : Nat} (hE : R 66 1 = some (e + 1)) (he : z_cd e) (pr : Int32 → Prop) (φS : Int32 → v_Sf → v_Sf) (hφS : ∀ (n d : Nat) (i : Int32) (S : v_Sf), pr i → u_P L xs n d m_X5_readSum 0 (lv_args 0 [.ref 67, .int i]) [] S R (z_V R (fun S1 => φS i S = S1))) (φT : Int32 → v_Sf → v_Sf) (hφT : ∀ (n d : Nat) (i : Int32) (S : v_Sf), pr i → u_P L xs n d m_X5_readTest 0 (lv_args 0 [.ref 67, .int i]) [] S R (z_V R (fun S1 => φT i S = S1))) (φC : Int32 → v_Sf → v_Sf) (hφC : ∀ (n d : Nat) (i : Int32) (S : v_Sf), pr i → u_P L xs n d m_X5_readCondition 0 (lv_args 0 [.ref 67, .int i]) [] S R (z_V R (fun S1 => φC i S = S1))) (a : Int32) (hs : a < (Int32.ofInt 6) → pr (a + (Int32.ofInt 1))) (S : v_Sf) : u_P L xs n d m_X5_readTest 0 (lv_args 0 [.ref 67, .int a]) [] S R (z_V R (fun S1 => g_readTestF e φS φT φC a S = S1)) := by
  refine w_readTestF L xs hE he pr φS hφS φT hφT φC hφC a  (fun S1 => g_readTestF e φS φT φC a S = S1)  n d S ?_
  · unfold D_readTestF
    refine ⟨fun q1 => ?_, fun q1 => ?_⟩
    · refine ⟨fun q2 => ?_, fun q2 => ?_⟩
      · refine ⟨hs, ?_⟩
        refine ⟨fun q3 => ?_, fun q3 => ?_⟩
        · refine ⟨hs, ?_⟩
          have e : g_X1_put e (f_X5_here (g_readSumF e φS a S)) (Int32.ofInt 0) (g_readSumF e φS a (z_s (g_readSumF e φS a S) 66 4 (((g_readSumF e φS a S) 66 4) + (Int32.ofInt 1)))) = F_readTestF e φS φT φC a S := by rw [F_readTestF, if_pos q1, if_pos q2, if_pos q3]
          exact e.symm
        · refine ⟨fun q4 => ?_, fun q4 => ?_⟩
          · refine ⟨hs, ?_⟩
            have e : g_X1_put e (f_X5_here (g_readSumF e φS a S)) (Int32.ofInt 0) (g_readSumF e φS a (z_s (g_readSumF e φS a S) 66 4 (((g_readSumF e φS a S) 66 4) + (Int32.ofInt 1)))) = F_readTestF e φS φT φC a S := by rw [F_readTestF, if_pos q1, if_pos q2, if_neg q3, if_pos q4]
            exact e.symm
          · refine ⟨fun q5 => ?_, fun q5 => ?_⟩
            · refine ⟨hs, ?_⟩
              have e : g_X1_put e (f_X5_here (g_readSumF e φS a S)) (Int32.ofInt 0) (g_readSumF e φS a (z_s (g_readSumF e φS a S) 66 4 (((g_readSumF e φS a S) 66 4) + (Int32.ofInt 1)))) = F_readTestF e φS φT φC a S := by rw [F_readTestF, if_pos q1, if_pos q2, if_neg q3, if_neg q4, if_pos q5]
              exact e.symm
            · have e : g_X5_fail (Int32.ofInt 1) ((g_readSumF e φS a S) 66 4) (g_readSumF e φS a S) = F_readTestF e φS φT φC a S := by rw [F_readTestF, if_pos q1, if_pos q2, if_neg q3, if_neg q4, if_neg q5]
              exact e.symm
      · refine ⟨fun q6 => ?_, fun q6 => ?_⟩
        · have e : g_X5_opens a S = F_readTestF e φS φT φC a S := by rw [F_readTestF, if_pos q1, if_neg q2, if_pos q6]
          exact e.symm
        · refine ⟨hs (z_op (by assumption)), ?_⟩
          have e : g_X1_put e (Int32.ofInt 3) (Int32.ofInt 0) (φT (a + (Int32.ofInt 1)) (g_X5_opens a S)) = F_readTestF e φS φT φC a S := by rw [F_readTestF, if_pos q1, if_neg q2, if_neg q6]
          exact e.symm
    · refine ⟨hs, ?_⟩
      have e : g_readBracketF e φC a S = F_readTestF e φS φT φC a S := by rw [F_readTestF, if_neg q1]
      exact e.symm
noncomputable abbrev m_X5_readPart : g_M := (g_cn 5, yX5_readPart, cX5_readPart, 4, none, g_look2 ttX5_readPart)
set_option maxRecDepth 20000 in
theorem mt_X5_readPart : g_mt 72 = some m_X5_readPart := rfl
noncomputable def D_readPartF_7 (pr : Int32 → Prop) (e : Nat) (φS : Int32 → v_Sf → v_Sf) (φT : Int32 → v_Sf → v_Sf) (φC : Int32 → v_Sf → v_Sf) (H7 : Int32 → Int32 → v_Sf → Prop) (K : v_Sf → Prop) (x1 : Int32) (x2 : Int32) (S : v_Sf) : Prop := (((Int32.ofInt 240) ≤ x2 → K S) ∧ (¬ ((Int32.ofInt 240) ≤ x2) → (((¬ (f_X5_here S) = (Int32.ofInt 38)) → K S) ∧ (¬ (¬ (f_X5_here S) = (Int32.ofInt 38)) → ((x1 < (Int32.ofInt 6) → pr (x1 + (Int32.ofInt 1))) ∧ H7 x1 (x2 + (Int32.ofInt 1)) (g_X1_land e (f_X1_put e (Int32.ofInt 4) (Int32.ofInt 0) (z_s S 66 4 ((S 66 4) + (Int32.ofInt 1)))) (g_readTestF e φS φT φC x1 (g_X1_put e (Int32.ofInt 4) (Int32.ofInt 0) (z_s S 66 4 ((S 66 4) + (Int32.ofInt 1)))))))))))
noncomputable def D_readPartF (pr : Int32 → Prop) (e : Nat) (φS : Int32 → v_Sf → v_Sf) (φT : Int32 → v_Sf → v_Sf) (φC : Int32 → v_Sf → v_Sf) (a : Int32) (H7 : Int32 → Int32 → v_Sf → Prop) (K : v_Sf → Prop) (S : v_Sf) : Prop := ((a < (Int32.ofInt 6) → pr (a + (Int32.ofInt 1))) ∧ H7 a (Int32.ofInt 0) (g_readTestF e φS φT φC a S))
set_option maxRecDepth 4000 in
theorem hd_readPartF (L : Nat) (xs : Nat → Int32) {R : v_Rf} {e : Nat} (hE : R 66 1 = some (e + 1)) (he : z_cd e) (pr : Int32 → Prop) (φS : Int32 → v_Sf → v_Sf) (hφS : ∀ (n d : Nat) (i : Int32) (S : v_Sf), pr i → u_P L xs n d m_X5_readSum 0 (lv_args 0 [.ref 67, .int i]) [] S R (z_V R (fun S1 => φS i S = S1))) (φT : Int32 → v_Sf → v_Sf) (hφT : ∀ (n d : Nat) (i : Int32) (S : v_Sf), pr i → u_P L xs n d m_X5_readTest 0 (lv_args 0 [.ref 67, .int i]) [] S R (z_V R (fun S1 => φT i S = S1))) (φC : Int32 → v_Sf → v_Sf) (hφC : ∀ (n d : Nat) (i : Int32) (S : v_Sf), pr i → u_P L xs n d m_X5_readCondition 0 (lv_args 0 [.ref 67, .int i]) [] S R (z_V R (fun S1 => φC i S = S1))) (a : Int32) (H7 : Int32 → Int32 → v_Sf → Prop) (K : v_Sf → Prop) (k7 : ∀ (x1 : Int32) (x2 : Int32) (S : v_Sf), H7 x1 x2 S → D_readPartF_7 pr e φS φT φC H7 K x1 x2 S) : ∀ n, (∀ (d : Nat) (x1 : Int32) (x2 : Int32) (S : v_Sf), H7 x1 x2 S → u_P L xs n d m_X5_readPart 7 [(0, .ref 67), (1, .int x1), (2, .int x2)] [] S R (z_V R K)) ∧ (∀ (d : Nat) (j3 : Int32) (x1 : Int32) (x2 : Int32) (S : v_Sf), H7 x1 x2 S → u_P L xs n d m_X5_readPart 7 [(0, .ref 67), (1, .int x1), (2, .int x2), (3, .int j3)] [] S R (z_V R K)) := by
  intro n
  induction n using Nat.strongRecOn with
  | ind n ih =>
    refine ⟨?_, ?_⟩
    · intro d x1 x2 S hD
      have hD := k7 x1 x2 S hD
      unfold D_readPartF_7 at hD
      show u_P L xs n d m_X5_readPart 7 [(0, .ref 67), (1, .int x1), (2, .int x2)] [] S R _
      refine u_st1 rfl (fun _ => rfl) (fun m hm => ?_)
      refine u_st rfl (fun _ => rfl) ?_
      show u_P L xs m d m_X5_readPart 11 [(0, .ref 67), (1, .int x1), (2, .int x2)] [.int (Int32.ofInt 240), .int x2] S R _
      refine u_ic_ge rfl (fun h1 => ?_) (fun h1 => ?_)
      · have hD := hD.1 h1
        show u_P L xs m d m_X5_readPart 62 [(0, .ref 67), (1, .int x1), (2, .int x2)] [] S R _
        exact u_ret rfl rfl ⟨rfl, rfl, hD⟩
      · have hD := hD.2 h1
        show u_P L xs m d m_X5_readPart 14 [(0, .ref 67), (1, .int x1), (2, .int x2)] [] S R _
        refine u_st rfl (fun _ => rfl) ?_
        show u_P L xs m d m_X5_readPart 15 [(0, .ref 67), (1, .int x1), (2, .int x2)] [.ref 67] S R _
        refine u_cv (rest := []) rfl (by decide) mt_X5_here rfl rfl rfl rfl (Nat.le_of_ble_eq_true rfl) (Nat.le_of_ble_eq_true rfl) (Nat.le_of_ble_eq_true rfl) (fun d' => c_X5_here L xs m d' S R) ?_
        rintro _ _ _ ⟨_, rfl, rfl, rfl, rfl⟩
        refine u_st rfl (fun _ => rfl) ?_
        show u_P L xs m d m_X5_readPart 20 [(0, .ref 67), (1, .int x1), (2, .int x2)] [.int (Int32.ofInt 38), .int (f_X5_here S)] S R _
        refine u_ic_ne rfl (fun h2 => ?_) (fun h2 => ?_)
        · have hD := hD.1 h2
          show u_P L xs m d m_X5_readPart 62 [(0, .ref 67), (1, .int x1), (2, .int x2)] [] S R _
          exact u_ret rfl rfl ⟨rfl, rfl, hD⟩
        · have hD := hD.2 h2
          show u_P L xs m d m_X5_readPart 23 [(0, .ref 67), (1, .int x1), (2, .int x2)] [] S R _
          refine u_st rfl (fun _ => rfl) ?_
          refine u_st rfl (fun _ => rfl) ?_
          show u_P L xs m d m_X5_readPart 25 [(0, .ref 67), (1, .int x1), (2, .int x2)] [.ref 67, .ref 67] S R _
          refine u_getE (v := S 66 4) rfl rfl rfl rfl ?_
          refine u_st rfl (fun _ => rfl) ?_
          refine u_st rfl (fun _ => rfl) ?_
          show u_P L xs m d m_X5_readPart 30 [(0, .ref 67), (1, .int x1), (2, .int x2)] [.int ((S 66 4) + (Int32.ofInt 1)), .ref 67] S R _
          refine u_put rfl rfl rfl ?_
          refine u_st rfl (fun _ => rfl) ?_
          show u_P L xs m d m_X5_readPart 34 [(0, .ref 67), (1, .int x1), (2, .int x2)] [.ref 67] (z_s S 66 4 ((S 66 4) + (Int32.ofInt 1))) R _
          refine u_getv rfl rfl rfl hE ?_
          refine u_st rfl (fun _ => rfl) ?_
          refine u_st rfl (fun _ => rfl) ?_
          show u_P L xs m d m_X5_readPart 39 [(0, .ref 67), (1, .int x1), (2, .int x2)] [.int (Int32.ofInt 0), .int (Int32.ofInt 4), .ref (e + 1)] (z_s S 66 4 ((S 66 4) + (Int32.ofInt 1))) R _
          refine u_cv (rest := []) rfl (by decide) mt_X1_put (z_cd0 he) rfl rfl rfl (Nat.le_of_ble_eq_true rfl) (Nat.le_of_ble_eq_true rfl) (Nat.le_of_ble_eq_true rfl) (fun d' => c_X1_put L xs m d' e he (Int32.ofInt 4) (Int32.ofInt 0) (z_s S 66 4 ((S 66 4) + (Int32.ofInt 1))) R) ?_
          rintro _ _ _ ⟨_, rfl, rfl, rfl, rfl⟩
          refine u_st rfl (fun _ => rfl) ?_
          refine u_st rfl (fun _ => rfl) ?_
          refine u_st rfl (fun _ => rfl) ?_
          show u_P L xs m d m_X5_readPart 45 [(3, .int (f_X1_put e (Int32.ofInt 4) (Int32.ofInt 0) (z_s S 66 4 ((S 66 4) + (Int32.ofInt 1))))), (0, .ref 67), (1, .int x1), (2, .int x2)] [.int x1, .ref 67] (g_X1_put e (Int32.ofInt 4) (Int32.ofInt 0) (z_s S 66 4 ((S 66 4) + (Int32.ofInt 1)))) R _
          refine u_cv (rest := []) rfl (by decide) mt_X5_readTest rfl rfl rfl rfl (Nat.le_of_ble_eq_true rfl) (Nat.le_of_ble_eq_true rfl) (Nat.le_of_ble_eq_true rfl) (fun d' => c_readTestF L xs m d' hE he pr φS hφS φT hφT φC hφC x1 hD.1 (g_X1_put e (Int32.ofInt 4) (Int32.ofInt 0) (z_s S 66 4 ((S 66 4) + (Int32.ofInt 1))))) ?_
          rintro _ _ _ ⟨rfl, rfl, rfl⟩
          have hD := hD.2
          show u_P L xs m d m_X5_readPart 48 [(3, .int (f_X1_put e (Int32.ofInt 4) (Int32.ofInt 0) (z_s S 66 4 ((S 66 4) + (Int32.ofInt 1))))), (0, .ref 67), (1, .int x1), (2, .int x2)] [] (g_readTestF e φS φT φC x1 (g_X1_put e (Int32.ofInt 4) (Int32.ofInt 0) (z_s S 66 4 ((S 66 4) + (Int32.ofInt 1))))) R _
          refine u_st rfl (fun _ => rfl) ?_
          show u_P L xs m d m_X5_readPart 49 [(3, .int (f_X1_put e (Int32.ofInt 4) (Int32.ofInt 0) (z_s S 66 4 ((S 66 4) + (Int32.ofInt 1))))), (0, .ref 67), (1, .int x1), (2, .int x2)] [.ref 67] (g_readTestF e φS φT φC x1 (g_X1_put e (Int32.ofInt 4) (Int32.ofInt 0) (z_s S 66 4 ((S 66 4) + (Int32.ofInt 1))))) R _
          refine u_getv rfl rfl rfl hE ?_
          refine u_st rfl (fun _ => rfl) ?_
          show u_P L xs m d m_X5_readPart 53 [(3, .int (f_X1_put e (Int32.ofInt 4) (Int32.ofInt 0) (z_s S 66 4 ((S 66 4) + (Int32.ofInt 1))))), (0, .ref 67), (1, .int x1), (2, .int x2)] [.int (f_X1_put e (Int32.ofInt 4) (Int32.ofInt 0) (z_s S 66 4 ((S 66 4) + (Int32.ofInt 1)))), .ref (e + 1)] (g_readTestF e φS φT φC x1 (g_X1_put e (Int32.ofInt 4) (Int32.ofInt 0) (z_s S 66 4 ((S 66 4) + (Int32.ofInt 1))))) R _
          refine u_cv (rest := []) rfl (by decide) mt_X1_land (z_cd0 he) rfl rfl rfl (Nat.le_of_ble_eq_true rfl) (Nat.le_of_ble_eq_true rfl) (Nat.le_of_ble_eq_true rfl) (fun d' => c_X1_land L xs m d' e he (f_X1_put e (Int32.ofInt 4) (Int32.ofInt 0) (z_s S 66 4 ((S 66 4) + (Int32.ofInt 1)))) (g_readTestF e φS φT φC x1 (g_X1_put e (Int32.ofInt 4) (Int32.ofInt 0) (z_s S 66 4 ((S 66 4) + (Int32.ofInt 1))))) R) ?_
          rintro _ _ _ ⟨rfl, rfl, rfl⟩
          refine u_st rfl (fun _ => rfl) ?_
          refine u_st rfl (fun _ => rfl) ?_
          refine u_lc (b := [(0, .ref 67), (1, .int x1), (2, .int (x2 + (Int32.ofInt 1))), (3, .int (f_X1_put e (Int32.ofInt 4) (Int32.ofInt 0) (z_s S 66 4 ((S 66 4) + (Int32.ofInt 1)))))]) (show ([2, 3, 0, 1] : List Nat).Nodup by decide) (show ([0, 1, 2, 3] : List Nat).Nodup by decide) (fun i => match i with | 0 => rfl | 1 => rfl | 2 => rfl | 3 => rfl | _ + 4 => rfl) ?_
          exact (ih m hm).2 d (f_X1_put e (Int32.ofInt 4) (Int32.ofInt 0) (z_s S 66 4 ((S 66 4) + (Int32.ofInt 1)))) x1 (x2 + (Int32.ofInt 1)) (g_X1_land e (f_X1_put e (Int32.ofInt 4) (Int32.ofInt 0) (z_s S 66 4 ((S 66 4) + (Int32.ofInt 1)))) (g_readTestF e φS φT φC x1 (g_X1_put e (Int32.ofInt 4) (Int32.ofInt 0) (z_s S 66 4 ((S 66 4) + (Int32.ofInt 1)))))) hD
    · intro d j3 x1 x2 S hD
      have hD := k7 x1 x2 S hD
      unfold D_readPartF_7 at hD
      show u_P L xs n d m_X5_readPart 7 [(0, .ref 67), (1, .int x1), (2, .int x2), (3, .int j3)] [] S R _
      refine u_st1 rfl (fun _ => rfl) (fun m hm => ?_)
      refine u_st rfl (fun _ => rfl) ?_
      show u_P L xs m d m_X5_readPart 11 [(0, .ref 67), (1, .int x1), (2, .int x2), (3, .int j3)] [.int (Int32.ofInt 240), .int x2] S R _
      refine u_ic_ge rfl (fun h1 => ?_) (fun h1 => ?_)
      · have hD := hD.1 h1
        show u_P L xs m d m_X5_readPart 62 [(0, .ref 67), (1, .int x1), (2, .int x2), (3, .int j3)] [] S R _
        exact u_ret rfl rfl ⟨rfl, rfl, hD⟩
      · have hD := hD.2 h1
        show u_P L xs m d m_X5_readPart 14 [(0, .ref 67), (1, .int x1), (2, .int x2), (3, .int j3)] [] S R _
        refine u_st rfl (fun _ => rfl) ?_
        show u_P L xs m d m_X5_readPart 15 [(0, .ref 67), (1, .int x1), (2, .int x2), (3, .int j3)] [.ref 67] S R _
        refine u_cv (rest := []) rfl (by decide) mt_X5_here rfl rfl rfl rfl (Nat.le_of_ble_eq_true rfl) (Nat.le_of_ble_eq_true rfl) (Nat.le_of_ble_eq_true rfl) (fun d' => c_X5_here L xs m d' S R) ?_
        rintro _ _ _ ⟨_, rfl, rfl, rfl, rfl⟩
        refine u_st rfl (fun _ => rfl) ?_
        show u_P L xs m d m_X5_readPart 20 [(0, .ref 67), (1, .int x1), (2, .int x2), (3, .int j3)] [.int (Int32.ofInt 38), .int (f_X5_here S)] S R _
        refine u_ic_ne rfl (fun h2 => ?_) (fun h2 => ?_)
        · have hD := hD.1 h2
          show u_P L xs m d m_X5_readPart 62 [(0, .ref 67), (1, .int x1), (2, .int x2), (3, .int j3)] [] S R _
          exact u_ret rfl rfl ⟨rfl, rfl, hD⟩
        · have hD := hD.2 h2
          show u_P L xs m d m_X5_readPart 23 [(0, .ref 67), (1, .int x1), (2, .int x2), (3, .int j3)] [] S R _
          refine u_st rfl (fun _ => rfl) ?_
          refine u_st rfl (fun _ => rfl) ?_
          show u_P L xs m d m_X5_readPart 25 [(0, .ref 67), (1, .int x1), (2, .int x2), (3, .int j3)] [.ref 67, .ref 67] S R _
          refine u_getE (v := S 66 4) rfl rfl rfl rfl ?_
          refine u_st rfl (fun _ => rfl) ?_
          refine u_st rfl (fun _ => rfl) ?_
          show u_P L xs m d m_X5_readPart 30 [(0, .ref 67), (1, .int x1), (2, .int x2), (3, .int j3)] [.int ((S 66 4) + (Int32.ofInt 1)), .ref 67] S R _
          refine u_put rfl rfl rfl ?_
          refine u_st rfl (fun _ => rfl) ?_
          show u_P L xs m d m_X5_readPart 34 [(0, .ref 67), (1, .int x1), (2, .int x2), (3, .int j3)] [.ref 67] (z_s S 66 4 ((S 66 4) + (Int32.ofInt 1))) R _
          refine u_getv rfl rfl rfl hE ?_
          refine u_st rfl (fun _ => rfl) ?_
          refine u_st rfl (fun _ => rfl) ?_
          show u_P L xs m d m_X5_readPart 39 [(0, .ref 67), (1, .int x1), (2, .int x2), (3, .int j3)] [.int (Int32.ofInt 0), .int (Int32.ofInt 4), .ref (e + 1)] (z_s S 66 4 ((S 66 4) + (Int32.ofInt 1))) R _
          refine u_cv (rest := []) rfl (by decide) mt_X1_put (z_cd0 he) rfl rfl rfl (Nat.le_of_ble_eq_true rfl) (Nat.le_of_ble_eq_true rfl) (Nat.le_of_ble_eq_true rfl) (fun d' => c_X1_put L xs m d' e he (Int32.ofInt 4) (Int32.ofInt 0) (z_s S 66 4 ((S 66 4) + (Int32.ofInt 1))) R) ?_
          rintro _ _ _ ⟨_, rfl, rfl, rfl, rfl⟩
          refine u_st rfl (fun _ => rfl) ?_
          refine u_st rfl (fun _ => rfl) ?_
          refine u_st rfl (fun _ => rfl) ?_
          show u_P L xs m d m_X5_readPart 45 [(3, .int (f_X1_put e (Int32.ofInt 4) (Int32.ofInt 0) (z_s S 66 4 ((S 66 4) + (Int32.ofInt 1))))), (0, .ref 67), (1, .int x1), (2, .int x2)] [.int x1, .ref 67] (g_X1_put e (Int32.ofInt 4) (Int32.ofInt 0) (z_s S 66 4 ((S 66 4) + (Int32.ofInt 1)))) R _
          refine u_cv (rest := []) rfl (by decide) mt_X5_readTest rfl rfl rfl rfl (Nat.le_of_ble_eq_true rfl) (Nat.le_of_ble_eq_true rfl) (Nat.le_of_ble_eq_true rfl) (fun d' => c_readTestF L xs m d' hE he pr φS hφS φT hφT φC hφC x1 hD.1 (g_X1_put e (Int32.ofInt 4) (Int32.ofInt 0) (z_s S 66 4 ((S 66 4) + (Int32.ofInt 1))))) ?_
          rintro _ _ _ ⟨rfl, rfl, rfl⟩
          have hD := hD.2
          show u_P L xs m d m_X5_readPart 48 [(3, .int (f_X1_put e (Int32.ofInt 4) (Int32.ofInt 0) (z_s S 66 4 ((S 66 4) + (Int32.ofInt 1))))), (0, .ref 67), (1, .int x1), (2, .int x2)] [] (g_readTestF e φS φT φC x1 (g_X1_put e (Int32.ofInt 4) (Int32.ofInt 0) (z_s S 66 4 ((S 66 4) + (Int32.ofInt 1))))) R _
          refine u_st rfl (fun _ => rfl) ?_
          show u_P L xs m d m_X5_readPart 49 [(3, .int (f_X1_put e (Int32.ofInt 4) (Int32.ofInt 0) (z_s S 66 4 ((S 66 4) + (Int32.ofInt 1))))), (0, .ref 67), (1, .int x1), (2, .int x2)] [.ref 67] (g_readTestF e φS φT φC x1 (g_X1_put e (Int32.ofInt 4) (Int32.ofInt 0) (z_s S 66 4 ((S 66 4) + (Int32.ofInt 1))))) R _
          refine u_getv rfl rfl rfl hE ?_
          refine u_st rfl (fun _ => rfl) ?_
          show u_P L xs m d m_X5_readPart 53 [(3, .int (f_X1_put e (Int32.ofInt 4) (Int32.ofInt 0) (z_s S 66 4 ((S 66 4) + (Int32.ofInt 1))))), (0, .ref 67), (1, .int x1), (2, .int x2)] [.int (f_X1_put e (Int32.ofInt 4) (Int32.ofInt 0) (z_s S 66 4 ((S 66 4) + (Int32.ofInt 1)))), .ref (e + 1)] (g_readTestF e φS φT φC x1 (g_X1_put e (Int32.ofInt 4) (Int32.ofInt 0) (z_s S 66 4 ((S 66 4) + (Int32.ofInt 1))))) R _
          refine u_cv (rest := []) rfl (by decide) mt_X1_land (z_cd0 he) rfl rfl rfl (Nat.le_of_ble_eq_true rfl) (Nat.le_of_ble_eq_true rfl) (Nat.le_of_ble_eq_true rfl) (fun d' => c_X1_land L xs m d' e he (f_X1_put e (Int32.ofInt 4) (Int32.ofInt 0) (z_s S 66 4 ((S 66 4) + (Int32.ofInt 1)))) (g_readTestF e φS φT φC x1 (g_X1_put e (Int32.ofInt 4) (Int32.ofInt 0) (z_s S 66 4 ((S 66 4) + (Int32.ofInt 1))))) R) ?_
          rintro _ _ _ ⟨rfl, rfl, rfl⟩
          refine u_st rfl (fun _ => rfl) ?_
          refine u_st rfl (fun _ => rfl) ?_
          refine u_lc (b := [(0, .ref 67), (1, .int x1), (2, .int (x2 + (Int32.ofInt 1))), (3, .int (f_X1_put e (Int32.ofInt 4) (Int32.ofInt 0) (z_s S 66 4 ((S 66 4) + (Int32.ofInt 1)))))]) (show ([2, 3, 0, 1] : List Nat).Nodup by decide) (show ([0, 1, 2, 3] : List Nat).Nodup by decide) (fun i => match i with | 0 => rfl | 1 => rfl | 2 => rfl | 3 => rfl | _ + 4 => rfl) ?_
          exact (ih m hm).2 d (f_X1_put e (Int32.ofInt 4) (Int32.ofInt 0) (z_s S 66 4 ((S 66 4) + (Int32.ofInt 1)))) x1 (x2 + (Int32.ofInt 1)) (g_X1_land e (f_X1_put e (Int32.ofInt 4) (Int32.ofInt 0) (z_s S 66 4 ((S 66 4) + (Int32.ofInt 1)))) (g_readTestF e φS φT φC x1 (g_X1_put e (Int32.ofInt 4) (Int32.ofInt 0) (z_s S 66 4 ((S 66 4) + (Int32.ofInt 1)))))) hD
set_option maxRecDepth 4000 in
theorem w_readPartF (L : Nat) (xs : Nat → Int32) {R : v_Rf} {e : Nat} (hE : R 66 1 = some (e + 1)) (he : z_cd e) (pr : Int32 → Prop) (φS : Int32 → v_Sf → v_Sf) (hφS : ∀ (n d : Nat) (i : Int32) (S : v_Sf), pr i → u_P L xs n d m_X5_readSum 0 (lv_args 0 [.ref 67, .int i]) [] S R (z_V R (fun S1 => φS i S = S1))) (φT : Int32 → v_Sf → v_Sf) (hφT : ∀ (n d : Nat) (i : Int32) (S : v_Sf), pr i → u_P L xs n d m_X5_readTest 0 (lv_args 0 [.ref 67, .int i]) [] S R (z_V R (fun S1 => φT i S = S1))) (φC : Int32 → v_Sf → v_Sf) (hφC : ∀ (n d : Nat) (i : Int32) (S : v_Sf), pr i → u_P L xs n d m_X5_readCondition 0 (lv_args 0 [.ref 67, .int i]) [] S R (z_V R (fun S1 => φC i S = S1))) (a : Int32) (H7 : Int32 → Int32 → v_Sf → Prop) (K : v_Sf → Prop) (k7 : ∀ (x1 : Int32) (x2 : Int32) (S : v_Sf), H7 x1 x2 S → D_readPartF_7 pr e φS φT φC H7 K x1 x2 S) (n d : Nat) (S : v_Sf) (hD : D_readPartF pr e φS φT φC a H7 K S) : u_P L xs n d m_X5_readPart 0 (lv_args 0 [.ref 67, .int a]) [] S R (z_V R K) := by
  unfold D_readPartF at hD
  show u_P L xs n d m_X5_readPart 0 [(0, .ref 67), (1, .int a)] [] S R _
  refine u_st rfl (fun _ => rfl) ?_
  refine u_st rfl (fun _ => rfl) ?_
  show u_P L xs n d m_X5_readPart 2 [(0, .ref 67), (1, .int a)] [.int a, .ref 67] S R _
  refine u_cv (rest := []) rfl (by decide) mt_X5_readTest rfl rfl rfl rfl (Nat.le_of_ble_eq_true rfl) (Nat.le_of_ble_eq_true rfl) (Nat.le_of_ble_eq_true rfl) (fun d' => c_readTestF L xs n d' hE he pr φS hφS φT hφT φC hφC a hD.1 S) ?_
  rintro _ _ _ ⟨rfl, rfl, rfl⟩
  have hD := hD.2
  show u_P L xs n d m_X5_readPart 5 [(0, .ref 67), (1, .int a)] [] (g_readTestF e φS φT φC a S) R _
  refine u_st rfl (fun _ => rfl) ?_
  refine u_st rfl (fun _ => rfl) ?_
  refine u_lc (b := [(0, .ref 67), (1, .int a), (2, .int (Int32.ofInt 0))]) (show ([2, 0, 1] : List Nat).Nodup by decide) (show ([0, 1, 2] : List Nat).Nodup by decide) (fun i => match i with | 0 => rfl | 1 => rfl | 2 => rfl | _ + 3 => rfl) ?_
  exact (hd_readPartF L xs hE he pr φS hφS φT hφT φC hφC a H7 K k7 n).1 d a (Int32.ofInt 0) (g_readTestF e φS φT φC a S) hD
noncomputable def r_readPartF_7 (e : Nat) (φS : Int32 → v_Sf → v_Sf) (φT : Int32 → v_Sf → v_Sf) (φC : Int32 → v_Sf → v_Sf) (x1 : Int32) : Nat → Nat → v_Sf → v_Sf
  | 0, k7, S => S
  | r + 1, k7, S => (if ¬ (f_X5_here S) = (Int32.ofInt 38) then S else r_readPartF_7 e φS φT φC x1 r (k7 + 1) (g_X1_land e (f_X1_put e (Int32.ofInt 4) (Int32.ofInt 0) (z_s S 66 4 ((S 66 4) + (Int32.ofInt 1)))) (g_readTestF e φS φT φC x1 (g_X1_put e (Int32.ofInt 4) (Int32.ofInt 0) (z_s S 66 4 ((S 66 4) + (Int32.ofInt 1)))))))
noncomputable def F_readPartF (e : Nat) (φS : Int32 → v_Sf → v_Sf) (φT : Int32 → v_Sf → v_Sf) (φC : Int32 → v_Sf → v_Sf) (a : Int32) (S : v_Sf) : v_Sf := r_readPartF_7 e φS φT φC a (240 - 0) 0 (g_readTestF e φS φT φC a S)
noncomputable def g_readPartF (e : Nat) (φS : Int32 → v_Sf → v_Sf) (φT : Int32 → v_Sf → v_Sf) (φC : Int32 → v_Sf → v_Sf) (a : Int32) (S : v_Sf) : v_Sf := F_readPartF e φS φT φC a S
theorem c_readPartF (L : Nat) (xs : Nat → Int32) (n d : Nat) {R : v_Rf} {e : Nat} (hE : R 66 1 = some (e + 1)) (he : z_cd e) (pr : Int32 → Prop) (φS : Int32 → v_Sf → v_Sf) (hφS : ∀ (n d : Nat) (i : Int32) (S : v_Sf), pr i → u_P L xs n d m_X5_readSum 0 (lv_args 0 [.ref 67, .int i]) [] S R (z_V R (fun S1 => φS i S = S1))) (φT : Int32 → v_Sf → v_Sf) (hφT : ∀ (n d : Nat) (i : Int32) (S : v_Sf), pr i → u_P L xs n d m_X5_readTest 0 (lv_args 0 [.ref 67, .int i]) [] S R (z_V R (fun S1 => φT i S = S1))) (φC : Int32 → v_Sf → v_Sf) (hφC : ∀ (n d : Nat) (i : Int32) (S : v_Sf), pr i → u_P L xs n d m_X5_readCondition 0 (lv_args 0 [.ref 67, .int i]) [] S R (z_V R (fun S1 => φC i S = S1))) (a : Int32) (hs : a < (Int32.ofInt 6) → pr (a + (Int32.ofInt 1))) (S : v_Sf) : u_P L xs n d m_X5_readPart 0 (lv_args 0 [.ref 67, .int a]) [] S R (z_V R (fun S1 => g_readPartF e φS φT φC a S = S1)) := by
  refine w_readPartF L xs hE he pr φS hφS φT hφT φC hφC a (fun y1 y2 T => ∃ (k7 : Nat), k7 ≤ 240 ∧ z_i k7 = y2 ∧ a = y1 ∧ r_readPartF_7 e φS φT φC a (240 - k7) k7 T = F_readPartF e φS φT φC a S) (fun S1 => g_readPartF e φS φT φC a S = S1) ?_ n d S ?_
  · rintro _ _ S1 ⟨k7, hkk, rfl, rfl, e⟩
    unfold D_readPartF_7
    rcases Nat.lt_or_ge k7 (240) with hk | hk
    · rw [show 240 - k7 = (240 - (k7 + 1)) + 1 by omega, r_readPartF_7] at e
      refine ⟨fun q1 => ?_, fun q1 => ?_⟩
      · exact absurd hk (Nat.not_lt.mpr (z_leB2 (B := 240) q1 (by decide) (by omega)))
      · refine ⟨fun q2 => ?_, fun q2 => ?_⟩
        · rw [if_pos q2] at e
          exact e.symm
        · refine ⟨hs, ?_⟩
          rw [if_neg q2] at e
          exact ⟨(k7 + 1), by omega, (z_i1 k7).symm, rfl, e⟩
    · rw [show 240 - k7 = 0 by omega, r_readPartF_7] at e
      refine ⟨fun q3 => ?_, fun q3 => ?_⟩
      · exact e.symm
      · exact absurd hk (Nat.not_le.mpr (z_ltB2 (B := 240) q3 (by decide) (by omega)))
  · unfold D_readPartF
    refine ⟨hs, ?_⟩
    have e : r_readPartF_7 e φS φT φC a (240 - 0) 0 (g_readTestF e φS φT φC a S) = F_readPartF e φS φT φC a S := by rw [F_readPartF]
    exact ⟨0, by omega, rfl, rfl, e⟩
noncomputable def D_readConditionF_7 (pr : Int32 → Prop) (e : Nat) (φS : Int32 → v_Sf → v_Sf) (φT : Int32 → v_Sf → v_Sf) (φC : Int32 → v_Sf → v_Sf) (H7 : Int32 → Int32 → v_Sf → Prop) (K : v_Sf → Prop) (x1 : Int32) (x2 : Int32) (S : v_Sf) : Prop := (((Int32.ofInt 240) ≤ x2 → K S) ∧ (¬ ((Int32.ofInt 240) ≤ x2) → (((¬ (f_X5_here S) = (Int32.ofInt 124)) → K S) ∧ (¬ (¬ (f_X5_here S) = (Int32.ofInt 124)) → ((x1 < (Int32.ofInt 6) → pr (x1 + (Int32.ofInt 1))) ∧ H7 x1 (x2 + (Int32.ofInt 1)) (g_X1_land e (f_X1_put e (Int32.ofInt 5) (Int32.ofInt 0) (z_s S 66 4 ((S 66 4) + (Int32.ofInt 1)))) (g_readPartF e φS φT φC x1 (g_X1_put e (Int32.ofInt 5) (Int32.ofInt 0) (z_s S 66 4 ((S 66 4) + (Int32.ofInt 1)))))))))))
noncomputable def D_readConditionF (pr : Int32 → Prop) (e : Nat) (φS : Int32 → v_Sf → v_Sf) (φT : Int32 → v_Sf → v_Sf) (φC : Int32 → v_Sf → v_Sf) (a : Int32) (H7 : Int32 → Int32 → v_Sf → Prop) (K : v_Sf → Prop) (S : v_Sf) : Prop := ((a < (Int32.ofInt 6) → pr (a + (Int32.ofInt 1))) ∧ H7 a (Int32.ofInt 0) (g_readPartF e φS φT φC a S))
set_option maxRecDepth 4000 in
theorem hd_readConditionF (L : Nat) (xs : Nat → Int32) {R : v_Rf} {e : Nat} (hE : R 66 1 = some (e + 1)) (he : z_cd e) (pr : Int32 → Prop) (φS : Int32 → v_Sf → v_Sf) (hφS : ∀ (n d : Nat) (i : Int32) (S : v_Sf), pr i → u_P L xs n d m_X5_readSum 0 (lv_args 0 [.ref 67, .int i]) [] S R (z_V R (fun S1 => φS i S = S1))) (φT : Int32 → v_Sf → v_Sf) (hφT : ∀ (n d : Nat) (i : Int32) (S : v_Sf), pr i → u_P L xs n d m_X5_readTest 0 (lv_args 0 [.ref 67, .int i]) [] S R (z_V R (fun S1 => φT i S = S1))) (φC : Int32 → v_Sf → v_Sf) (hφC : ∀ (n d : Nat) (i : Int32) (S : v_Sf), pr i → u_P L xs n d m_X5_readCondition 0 (lv_args 0 [.ref 67, .int i]) [] S R (z_V R (fun S1 => φC i S = S1))) (a : Int32) (H7 : Int32 → Int32 → v_Sf → Prop) (K : v_Sf → Prop) (k7 : ∀ (x1 : Int32) (x2 : Int32) (S : v_Sf), H7 x1 x2 S → D_readConditionF_7 pr e φS φT φC H7 K x1 x2 S) : ∀ n, (∀ (d : Nat) (x1 : Int32) (x2 : Int32) (S : v_Sf), H7 x1 x2 S → u_P L xs n d m_X5_readCondition 7 [(0, .ref 67), (1, .int x1), (2, .int x2)] [] S R (z_V R K)) ∧ (∀ (d : Nat) (j3 : Int32) (x1 : Int32) (x2 : Int32) (S : v_Sf), H7 x1 x2 S → u_P L xs n d m_X5_readCondition 7 [(0, .ref 67), (1, .int x1), (2, .int x2), (3, .int j3)] [] S R (z_V R K)) := by
  intro n
  induction n using Nat.strongRecOn with
  | ind n ih =>
    refine ⟨?_, ?_⟩
    · intro d x1 x2 S hD
      have hD := k7 x1 x2 S hD
      unfold D_readConditionF_7 at hD
      show u_P L xs n d m_X5_readCondition 7 [(0, .ref 67), (1, .int x1), (2, .int x2)] [] S R _
      refine u_st1 rfl (fun _ => rfl) (fun m hm => ?_)
      refine u_st rfl (fun _ => rfl) ?_
      show u_P L xs m d m_X5_readCondition 11 [(0, .ref 67), (1, .int x1), (2, .int x2)] [.int (Int32.ofInt 240), .int x2] S R _
      refine u_ic_ge rfl (fun h1 => ?_) (fun h1 => ?_)
      · have hD := hD.1 h1
        show u_P L xs m d m_X5_readCondition 62 [(0, .ref 67), (1, .int x1), (2, .int x2)] [] S R _
        exact u_ret rfl rfl ⟨rfl, rfl, hD⟩
      · have hD := hD.2 h1
        show u_P L xs m d m_X5_readCondition 14 [(0, .ref 67), (1, .int x1), (2, .int x2)] [] S R _
        refine u_st rfl (fun _ => rfl) ?_
        show u_P L xs m d m_X5_readCondition 15 [(0, .ref 67), (1, .int x1), (2, .int x2)] [.ref 67] S R _
        refine u_cv (rest := []) rfl (by decide) mt_X5_here rfl rfl rfl rfl (Nat.le_of_ble_eq_true rfl) (Nat.le_of_ble_eq_true rfl) (Nat.le_of_ble_eq_true rfl) (fun d' => c_X5_here L xs m d' S R) ?_
        rintro _ _ _ ⟨_, rfl, rfl, rfl, rfl⟩
        refine u_st rfl (fun _ => rfl) ?_
        show u_P L xs m d m_X5_readCondition 20 [(0, .ref 67), (1, .int x1), (2, .int x2)] [.int (Int32.ofInt 124), .int (f_X5_here S)] S R _
        refine u_ic_ne rfl (fun h2 => ?_) (fun h2 => ?_)
        · have hD := hD.1 h2
          show u_P L xs m d m_X5_readCondition 62 [(0, .ref 67), (1, .int x1), (2, .int x2)] [] S R _
          exact u_ret rfl rfl ⟨rfl, rfl, hD⟩
        · have hD := hD.2 h2
          show u_P L xs m d m_X5_readCondition 23 [(0, .ref 67), (1, .int x1), (2, .int x2)] [] S R _
          refine u_st rfl (fun _ => rfl) ?_
          refine u_st rfl (fun _ => rfl) ?_
          show u_P L xs m d m_X5_readCondition 25 [(0, .ref 67), (1, .int x1), (2, .int x2)] [.ref 67, .ref 67] S R _
          refine u_getE (v := S 66 4) rfl rfl rfl rfl ?_
          refine u_st rfl (fun _ => rfl) ?_
          refine u_st rfl (fun _ => rfl) ?_
          show u_P L xs m d m_X5_readCondition 30 [(0, .ref 67), (1, .int x1), (2, .int x2)] [.int ((S 66 4) + (Int32.ofInt 1)), .ref 67] S R _
          refine u_put rfl rfl rfl ?_
          refine u_st rfl (fun _ => rfl) ?_
          show u_P L xs m d m_X5_readCondition 34 [(0, .ref 67), (1, .int x1), (2, .int x2)] [.ref 67] (z_s S 66 4 ((S 66 4) + (Int32.ofInt 1))) R _
          refine u_getv rfl rfl rfl hE ?_
          refine u_st rfl (fun _ => rfl) ?_
          refine u_st rfl (fun _ => rfl) ?_
          show u_P L xs m d m_X5_readCondition 39 [(0, .ref 67), (1, .int x1), (2, .int x2)] [.int (Int32.ofInt 0), .int (Int32.ofInt 5), .ref (e + 1)] (z_s S 66 4 ((S 66 4) + (Int32.ofInt 1))) R _
          refine u_cv (rest := []) rfl (by decide) mt_X1_put (z_cd0 he) rfl rfl rfl (Nat.le_of_ble_eq_true rfl) (Nat.le_of_ble_eq_true rfl) (Nat.le_of_ble_eq_true rfl) (fun d' => c_X1_put L xs m d' e he (Int32.ofInt 5) (Int32.ofInt 0) (z_s S 66 4 ((S 66 4) + (Int32.ofInt 1))) R) ?_
          rintro _ _ _ ⟨_, rfl, rfl, rfl, rfl⟩
          refine u_st rfl (fun _ => rfl) ?_
          refine u_st rfl (fun _ => rfl) ?_
          refine u_st rfl (fun _ => rfl) ?_
          show u_P L xs m d m_X5_readCondition 45 [(3, .int (f_X1_put e (Int32.ofInt 5) (Int32.ofInt 0) (z_s S 66 4 ((S 66 4) + (Int32.ofInt 1))))), (0, .ref 67), (1, .int x1), (2, .int x2)] [.int x1, .ref 67] (g_X1_put e (Int32.ofInt 5) (Int32.ofInt 0) (z_s S 66 4 ((S 66 4) + (Int32.ofInt 1)))) R _
          refine u_cv (rest := []) rfl (by decide) mt_X5_readPart rfl rfl rfl rfl (Nat.le_of_ble_eq_true rfl) (Nat.le_of_ble_eq_true rfl) (Nat.le_of_ble_eq_true rfl) (fun d' => c_readPartF L xs m d' hE he pr φS hφS φT hφT φC hφC x1 hD.1 (g_X1_put e (Int32.ofInt 5) (Int32.ofInt 0) (z_s S 66 4 ((S 66 4) + (Int32.ofInt 1))))) ?_
          rintro _ _ _ ⟨rfl, rfl, rfl⟩
          have hD := hD.2
          show u_P L xs m d m_X5_readCondition 48 [(3, .int (f_X1_put e (Int32.ofInt 5) (Int32.ofInt 0) (z_s S 66 4 ((S 66 4) + (Int32.ofInt 1))))), (0, .ref 67), (1, .int x1), (2, .int x2)] [] (g_readPartF e φS φT φC x1 (g_X1_put e (Int32.ofInt 5) (Int32.ofInt 0) (z_s S 66 4 ((S 66 4) + (Int32.ofInt 1))))) R _
          refine u_st rfl (fun _ => rfl) ?_
          show u_P L xs m d m_X5_readCondition 49 [(3, .int (f_X1_put e (Int32.ofInt 5) (Int32.ofInt 0) (z_s S 66 4 ((S 66 4) + (Int32.ofInt 1))))), (0, .ref 67), (1, .int x1), (2, .int x2)] [.ref 67] (g_readPartF e φS φT φC x1 (g_X1_put e (Int32.ofInt 5) (Int32.ofInt 0) (z_s S 66 4 ((S 66 4) + (Int32.ofInt 1))))) R _
          refine u_getv rfl rfl rfl hE ?_
          refine u_st rfl (fun _ => rfl) ?_
          show u_P L xs m d m_X5_readCondition 53 [(3, .int (f_X1_put e (Int32.ofInt 5) (Int32.ofInt 0) (z_s S 66 4 ((S 66 4) + (Int32.ofInt 1))))), (0, .ref 67), (1, .int x1), (2, .int x2)] [.int (f_X1_put e (Int32.ofInt 5) (Int32.ofInt 0) (z_s S 66 4 ((S 66 4) + (Int32.ofInt 1)))), .ref (e + 1)] (g_readPartF e φS φT φC x1 (g_X1_put e (Int32.ofInt 5) (Int32.ofInt 0) (z_s S 66 4 ((S 66 4) + (Int32.ofInt 1))))) R _
          refine u_cv (rest := []) rfl (by decide) mt_X1_land (z_cd0 he) rfl rfl rfl (Nat.le_of_ble_eq_true rfl) (Nat.le_of_ble_eq_true rfl) (Nat.le_of_ble_eq_true rfl) (fun d' => c_X1_land L xs m d' e he (f_X1_put e (Int32.ofInt 5) (Int32.ofInt 0) (z_s S 66 4 ((S 66 4) + (Int32.ofInt 1)))) (g_readPartF e φS φT φC x1 (g_X1_put e (Int32.ofInt 5) (Int32.ofInt 0) (z_s S 66 4 ((S 66 4) + (Int32.ofInt 1))))) R) ?_
          rintro _ _ _ ⟨rfl, rfl, rfl⟩
          refine u_st rfl (fun _ => rfl) ?_
          refine u_st rfl (fun _ => rfl) ?_
          refine u_lc (b := [(0, .ref 67), (1, .int x1), (2, .int (x2 + (Int32.ofInt 1))), (3, .int (f_X1_put e (Int32.ofInt 5) (Int32.ofInt 0) (z_s S 66 4 ((S 66 4) + (Int32.ofInt 1)))))]) (show ([2, 3, 0, 1] : List Nat).Nodup by decide) (show ([0, 1, 2, 3] : List Nat).Nodup by decide) (fun i => match i with | 0 => rfl | 1 => rfl | 2 => rfl | 3 => rfl | _ + 4 => rfl) ?_
          exact (ih m hm).2 d (f_X1_put e (Int32.ofInt 5) (Int32.ofInt 0) (z_s S 66 4 ((S 66 4) + (Int32.ofInt 1)))) x1 (x2 + (Int32.ofInt 1)) (g_X1_land e (f_X1_put e (Int32.ofInt 5) (Int32.ofInt 0) (z_s S 66 4 ((S 66 4) + (Int32.ofInt 1)))) (g_readPartF e φS φT φC x1 (g_X1_put e (Int32.ofInt 5) (Int32.ofInt 0) (z_s S 66 4 ((S 66 4) + (Int32.ofInt 1)))))) hD
    · intro d j3 x1 x2 S hD
      have hD := k7 x1 x2 S hD
      unfold D_readConditionF_7 at hD
      show u_P L xs n d m_X5_readCondition 7 [(0, .ref 67), (1, .int x1), (2, .int x2), (3, .int j3)] [] S R _
      refine u_st1 rfl (fun _ => rfl) (fun m hm => ?_)
      refine u_st rfl (fun _ => rfl) ?_
      show u_P L xs m d m_X5_readCondition 11 [(0, .ref 67), (1, .int x1), (2, .int x2), (3, .int j3)] [.int (Int32.ofInt 240), .int x2] S R _
      refine u_ic_ge rfl (fun h1 => ?_) (fun h1 => ?_)
      · have hD := hD.1 h1
        show u_P L xs m d m_X5_readCondition 62 [(0, .ref 67), (1, .int x1), (2, .int x2), (3, .int j3)] [] S R _
        exact u_ret rfl rfl ⟨rfl, rfl, hD⟩
      · have hD := hD.2 h1
        show u_P L xs m d m_X5_readCondition 14 [(0, .ref 67), (1, .int x1), (2, .int x2), (3, .int j3)] [] S R _
        refine u_st rfl (fun _ => rfl) ?_
        show u_P L xs m d m_X5_readCondition 15 [(0, .ref 67), (1, .int x1), (2, .int x2), (3, .int j3)] [.ref 67] S R _
        refine u_cv (rest := []) rfl (by decide) mt_X5_here rfl rfl rfl rfl (Nat.le_of_ble_eq_true rfl) (Nat.le_of_ble_eq_true rfl) (Nat.le_of_ble_eq_true rfl) (fun d' => c_X5_here L xs m d' S R) ?_
        rintro _ _ _ ⟨_, rfl, rfl, rfl, rfl⟩
        refine u_st rfl (fun _ => rfl) ?_
        show u_P L xs m d m_X5_readCondition 20 [(0, .ref 67), (1, .int x1), (2, .int x2), (3, .int j3)] [.int (Int32.ofInt 124), .int (f_X5_here S)] S R _
        refine u_ic_ne rfl (fun h2 => ?_) (fun h2 => ?_)
        · have hD := hD.1 h2
          show u_P L xs m d m_X5_readCondition 62 [(0, .ref 67), (1, .int x1), (2, .int x2), (3, .int j3)] [] S R _
          exact u_ret rfl rfl ⟨rfl, rfl, hD⟩
        · have hD := hD.2 h2
          show u_P L xs m d m_X5_readCondition 23 [(0, .ref 67), (1, .int x1), (2, .int x2), (3, .int j3)] [] S R _
          refine u_st rfl (fun _ => rfl) ?_
          refine u_st rfl (fun _ => rfl) ?_
          show u_P L xs m d m_X5_readCondition 25 [(0, .ref 67), (1, .int x1), (2, .int x2), (3, .int j3)] [.ref 67, .ref 67] S R _
          refine u_getE (v := S 66 4) rfl rfl rfl rfl ?_
          refine u_st rfl (fun _ => rfl) ?_
          refine u_st rfl (fun _ => rfl) ?_
          show u_P L xs m d m_X5_readCondition 30 [(0, .ref 67), (1, .int x1), (2, .int x2), (3, .int j3)] [.int ((S 66 4) + (Int32.ofInt 1)), .ref 67] S R _
          refine u_put rfl rfl rfl ?_
          refine u_st rfl (fun _ => rfl) ?_
          show u_P L xs m d m_X5_readCondition 34 [(0, .ref 67), (1, .int x1), (2, .int x2), (3, .int j3)] [.ref 67] (z_s S 66 4 ((S 66 4) + (Int32.ofInt 1))) R _
          refine u_getv rfl rfl rfl hE ?_
          refine u_st rfl (fun _ => rfl) ?_
          refine u_st rfl (fun _ => rfl) ?_
          show u_P L xs m d m_X5_readCondition 39 [(0, .ref 67), (1, .int x1), (2, .int x2), (3, .int j3)] [.int (Int32.ofInt 0), .int (Int32.ofInt 5), .ref (e + 1)] (z_s S 66 4 ((S 66 4) + (Int32.ofInt 1))) R _
          refine u_cv (rest := []) rfl (by decide) mt_X1_put (z_cd0 he) rfl rfl rfl (Nat.le_of_ble_eq_true rfl) (Nat.le_of_ble_eq_true rfl) (Nat.le_of_ble_eq_true rfl) (fun d' => c_X1_put L xs m d' e he (Int32.ofInt 5) (Int32.ofInt 0) (z_s S 66 4 ((S 66 4) + (Int32.ofInt 1))) R) ?_
          rintro _ _ _ ⟨_, rfl, rfl, rfl, rfl⟩
          refine u_st rfl (fun _ => rfl) ?_
          refine u_st rfl (fun _ => rfl) ?_
          refine u_st rfl (fun _ => rfl) ?_
          show u_P L xs m d m_X5_readCondition 45 [(3, .int (f_X1_put e (Int32.ofInt 5) (Int32.ofInt 0) (z_s S 66 4 ((S 66 4) + (Int32.ofInt 1))))), (0, .ref 67), (1, .int x1), (2, .int x2)] [.int x1, .ref 67] (g_X1_put e (Int32.ofInt 5) (Int32.ofInt 0) (z_s S 66 4 ((S 66 4) + (Int32.ofInt 1)))) R _
          refine u_cv (rest := []) rfl (by decide) mt_X5_readPart rfl rfl rfl rfl (Nat.le_of_ble_eq_true rfl) (Nat.le_of_ble_eq_true rfl) (Nat.le_of_ble_eq_true rfl) (fun d' => c_readPartF L xs m d' hE he pr φS hφS φT hφT φC hφC x1 hD.1 (g_X1_put e (Int32.ofInt 5) (Int32.ofInt 0) (z_s S 66 4 ((S 66 4) + (Int32.ofInt 1))))) ?_
          rintro _ _ _ ⟨rfl, rfl, rfl⟩
          have hD := hD.2
          show u_P L xs m d m_X5_readCondition 48 [(3, .int (f_X1_put e (Int32.ofInt 5) (Int32.ofInt 0) (z_s S 66 4 ((S 66 4) + (Int32.ofInt 1))))), (0, .ref 67), (1, .int x1), (2, .int x2)] [] (g_readPartF e φS φT φC x1 (g_X1_put e (Int32.ofInt 5) (Int32.ofInt 0) (z_s S 66 4 ((S 66 4) + (Int32.ofInt 1))))) R _
          refine u_st rfl (fun _ => rfl) ?_
          show u_P L xs m d m_X5_readCondition 49 [(3, .int (f_X1_put e (Int32.ofInt 5) (Int32.ofInt 0) (z_s S 66 4 ((S 66 4) + (Int32.ofInt 1))))), (0, .ref 67), (1, .int x1), (2, .int x2)] [.ref 67] (g_readPartF e φS φT φC x1 (g_X1_put e (Int32.ofInt 5) (Int32.ofInt 0) (z_s S 66 4 ((S 66 4) + (Int32.ofInt 1))))) R _
          refine u_getv rfl rfl rfl hE ?_
          refine u_st rfl (fun _ => rfl) ?_
          show u_P L xs m d m_X5_readCondition 53 [(3, .int (f_X1_put e (Int32.ofInt 5) (Int32.ofInt 0) (z_s S 66 4 ((S 66 4) + (Int32.ofInt 1))))), (0, .ref 67), (1, .int x1), (2, .int x2)] [.int (f_X1_put e (Int32.ofInt 5) (Int32.ofInt 0) (z_s S 66 4 ((S 66 4) + (Int32.ofInt 1)))), .ref (e + 1)] (g_readPartF e φS φT φC x1 (g_X1_put e (Int32.ofInt 5) (Int32.ofInt 0) (z_s S 66 4 ((S 66 4) + (Int32.ofInt 1))))) R _
          refine u_cv (rest := []) rfl (by decide) mt_X1_land (z_cd0 he) rfl rfl rfl (Nat.le_of_ble_eq_true rfl) (Nat.le_of_ble_eq_true rfl) (Nat.le_of_ble_eq_true rfl) (fun d' => c_X1_land L xs m d' e he (f_X1_put e (Int32.ofInt 5) (Int32.ofInt 0) (z_s S 66 4 ((S 66 4) + (Int32.ofInt 1)))) (g_readPartF e φS φT φC x1 (g_X1_put e (Int32.ofInt 5) (Int32.ofInt 0) (z_s S 66 4 ((S 66 4) + (Int32.ofInt 1))))) R) ?_
          rintro _ _ _ ⟨rfl, rfl, rfl⟩
          refine u_st rfl (fun _ => rfl) ?_
          refine u_st rfl (fun _ => rfl) ?_
          refine u_lc (b := [(0, .ref 67), (1, .int x1), (2, .int (x2 + (Int32.ofInt 1))), (3, .int (f_X1_put e (Int32.ofInt 5) (Int32.ofInt 0) (z_s S 66 4 ((S 66 4) + (Int32.ofInt 1)))))]) (show ([2, 3, 0, 1] : List Nat).Nodup by decide) (show ([0, 1, 2, 3] : List Nat).Nodup by decide) (fun i => match i with | 0 => rfl | 1 => rfl | 2 => rfl | 3 => rfl | _ + 4 => rfl) ?_
          exact (ih m hm).2 d (f_X1_put e (Int32.ofInt 5) (Int32.ofInt 0) (z_s S 66 4 ((S 66 4) + (Int32.ofInt 1)))) x1 (x2 + (Int32.ofInt 1)) (g_X1_land e (f_X1_put e (Int32.ofInt 5) (Int32.ofInt 0) (z_s S 66 4 ((S 66 4) + (Int32.ofInt 1)))) (g_readPartF e φS φT φC x1 (g_X1_put e (Int32.ofInt 5) (Int32.ofInt 0) (z_s S 66 4 ((S 66 4) + (Int32.ofInt 1)))))) hD
set_option maxRecDepth 4000 in
theorem w_readConditionF (L : Nat) (xs : Nat → Int32) {R : v_Rf} {e : Nat} (hE : R 66 1 = some (e + 1)) (he : z_cd e) (pr : Int32 → Prop) (φS : Int32 → v_Sf → v_Sf) (hφS : ∀ (n d : Nat) (i : Int32) (S : v_Sf), pr i → u_P L xs n d m_X5_readSum 0 (lv_args 0 [.ref 67, .int i]) [] S R (z_V R (fun S1 => φS i S = S1))) (φT : Int32 → v_Sf → v_Sf) (hφT : ∀ (n d : Nat) (i : Int32) (S : v_Sf), pr i → u_P L xs n d m_X5_readTest 0 (lv_args 0 [.ref 67, .int i]) [] S R (z_V R (fun S1 => φT i S = S1))) (φC : Int32 → v_Sf → v_Sf) (hφC : ∀ (n d : Nat) (i : Int32) (S : v_Sf), pr i → u_P L xs n d m_X5_readCondition 0 (lv_args 0 [.ref 67, .int i]) [] S R (z_V R (fun S1 => φC i S = S1))) (a : Int32) (H7 : Int32 → Int32 → v_Sf → Prop) (K : v_Sf → Prop) (k7 : ∀ (x1 : Int32) (x2 : Int32) (S : v_Sf), H7 x1 x2 S → D_readConditionF_7 pr e φS φT φC H7 K x1 x2 S) (n d : Nat) (S : v_Sf) (hD : D_readConditionF pr e φS φT φC a H7 K S) : u_P L xs n d m_X5_readCondition 0 (lv_args 0 [.ref 67, .int a]) [] S R (z_V R K) := by
  unfold D_readConditionF at hD
  show u_P L xs n d m_X5_readCondition 0 [(0, .ref 67), (1, .int a)] [] S R _
  refine u_st rfl (fun _ => rfl) ?_
  refine u_st rfl (fun _ => rfl) ?_
  show u_P L xs n d m_X5_readCondition 2 [(0, .ref 67), (1, .int a)] [.int a, .ref 67] S R _
  refine u_cv (rest := []) rfl (by decide) mt_X5_readPart rfl rfl rfl rfl (Nat.le_of_ble_eq_true rfl) (Nat.le_of_ble_eq_true rfl) (Nat.le_of_ble_eq_true rfl) (fun d' => c_readPartF L xs n d' hE he pr φS hφS φT hφT φC hφC a hD.1 S) ?_
  rintro _ _ _ ⟨rfl, rfl, rfl⟩
  have hD := hD.2
  show u_P L xs n d m_X5_readCondition 5 [(0, .ref 67), (1, .int a)] [] (g_readPartF e φS φT φC a S) R _
  refine u_st rfl (fun _ => rfl) ?_
  refine u_st rfl (fun _ => rfl) ?_
  refine u_lc (b := [(0, .ref 67), (1, .int a), (2, .int (Int32.ofInt 0))]) (show ([2, 0, 1] : List Nat).Nodup by decide) (show ([0, 1, 2] : List Nat).Nodup by decide) (fun i => match i with | 0 => rfl | 1 => rfl | 2 => rfl | _ + 3 => rfl) ?_
  exact (hd_readConditionF L xs hE he pr φS hφS φT hφT φC hφC a H7 K k7 n).1 d a (Int32.ofInt 0) (g_readPartF e φS φT φC a S) hD
noncomputable def r_readConditionF_7 (e : Nat) (φS : Int32 → v_Sf → v_Sf) (φT : Int32 → v_Sf → v_Sf) (φC : Int32 → v_Sf → v_Sf) (x1 : Int32) : Nat → Nat → v_Sf → v_Sf
  | 0, k7, S => S
  | r + 1, k7, S => (if ¬ (f_X5_here S) = (Int32.ofInt 124) then S else r_readConditionF_7 e φS φT φC x1 r (k7 + 1) (g_X1_land e (f_X1_put e (Int32.ofInt 5) (Int32.ofInt 0) (z_s S 66 4 ((S 66 4) + (Int32.ofInt 1)))) (g_readPartF e φS φT φC x1 (g_X1_put e (Int32.ofInt 5) (Int32.ofInt 0) (z_s S 66 4 ((S 66 4) + (Int32.ofInt 1)))))))
noncomputable def F_readConditionF (e : Nat) (φS : Int32 → v_Sf → v_Sf) (φT : Int32 → v_Sf → v_Sf) (φC : Int32 → v_Sf → v_Sf) (a : Int32) (S : v_Sf) : v_Sf := r_readConditionF_7 e φS φT φC a (240 - 0) 0 (g_readPartF e φS φT φC a S)
noncomputable def g_readConditionF (e : Nat) (φS : Int32 → v_Sf → v_Sf) (φT : Int32 → v_Sf → v_Sf) (φC : Int32 → v_Sf → v_Sf) (a : Int32) (S : v_Sf) : v_Sf := F_readConditionF e φS φT φC a S
theorem c_readConditionF (L : Nat) (xs : Nat → Int32) (n d : Nat) {R : v_Rf} {e : Nat} (hE : R 66 1 = some (e + 1)) (he : z_cd e) (pr : Int32 → Prop) (φS : Int32 → v_Sf → v_Sf) (hφS : ∀ (n d : Nat) (i : Int32) (S : v_Sf), pr i → u_P L xs n d m_X5_readSum 0 (lv_args 0 [.ref 67, .int i]) [] S R (z_V R (fun S1 => φS i S = S1))) (φT : Int32 → v_Sf → v_Sf) (hφT : ∀ (n d : Nat) (i : Int32) (S : v_Sf), pr i → u_P L xs n d m_X5_readTest 0 (lv_args 0 [.ref 67, .int i]) [] S R (z_V R (fun S1 => φT i S = S1))) (φC : Int32 → v_Sf → v_Sf) (hφC : ∀ (n d : Nat) (i : Int32) (S : v_Sf), pr i → u_P L xs n d m_X5_readCondition 0 (lv_args 0 [.ref 67, .int i]) [] S R (z_V R (fun S1 => φC i S = S1))) (a : Int32) (hs : a < (Int32.ofInt 6) → pr (a + (Int32.ofInt 1))) (S : v_Sf) : u_P L xs n d m_X5_readCondition 0 (lv_args 0 [.ref 67, .int a]) [] S R (z_V R (fun S1 => g_readConditionF e φS φT φC a S = S1)) := by
  refine w_readConditionF L xs hE he pr φS hφS φT hφT φC hφC a (fun y1 y2 T => ∃ (k7 : Nat), k7 ≤ 240 ∧ z_i k7 = y2 ∧ a = y1 ∧ r_readConditionF_7 e φS φT φC a (240 - k7) k7 T = F_readConditionF e φS φT φC a S) (fun S1 => g_readConditionF e φS φT φC a S = S1) ?_ n d S ?_
  · rintro _ _ S1 ⟨k7, hkk, rfl, rfl, e⟩
    unfold D_readConditionF_7
    rcases Nat.lt_or_ge k7 (240) with hk | hk
    · rw [show 240 - k7 = (240 - (k7 + 1)) + 1 by omega, r_readConditionF_7] at e
      refine ⟨fun q1 => ?_, fun q1 => ?_⟩
      · exact absurd hk (Nat.not_lt.mpr (z_leB2 (B := 240) q1 (by decide) (by omega)))
      · refine ⟨fun q2 => ?_, fun q2 => ?_⟩
        · rw [if_pos q2] at e
          exact e.symm
        · refine ⟨hs, ?_⟩
          rw [if_neg q2] at e
          exact ⟨(k7 + 1), by omega, (z_i1 k7).symm, rfl, e⟩
    · rw [show 240 - k7 = 0 by omega, r_readConditionF_7] at e
      refine ⟨fun q3 => ?_, fun q3 => ?_⟩
      · exact e.symm
      · exact absurd hk (Nat.not_le.mpr (z_ltB2 (B := 240) q3 (by decide) (by omega)))
  · unfold D_readConditionF
    refine ⟨hs, ?_⟩
    have e : r_readConditionF_7 e φS φT φC a (240 - 0) 0 (g_readPartF e φS φT φC a S) = F_readConditionF e φS φT φC a S := by rw [F_readConditionF]
    exact ⟨0, by omega, rfl, rfl, e⟩
end PrtS42o
section PrtS42p
noncomputable def D_X12_reads_7  (H7 : Int32 → Int32 → v_Sf → Prop) (K : Int32 → v_Sf → Prop) (x1 : Int32) (x2 : Int32) (S : v_Sf) : Prop := (((f_X12_isGood S) = 0 → K x2 S) ∧ (¬ ((f_X12_isGood S) = 0) → (((f_X12_seesDigit S) = 0 → K x2 S) ∧ (¬ ((f_X12_seesDigit S) = 0) → (((¬ (S 99 3) = (x1 + (Int32.ofInt 5))) → H7 x1 ((((Int32.ofInt 10) * x2) + (f_X12_here S)) - (Int32.ofInt 48)) (z_s S 99 3 ((S 99 3) + (Int32.ofInt 1)))) ∧ (¬ (¬ (S 99 3) = (x1 + (Int32.ofInt 5))) → H7 x1 ((((Int32.ofInt 10) * x2) + (f_X12_here (g_X12_wrongs (Int32.ofInt 2) (S 99 3) S))) - (Int32.ofInt 48)) (z_s (g_X12_wrongs (Int32.ofInt 2) (S 99 3) S) 99 3 (((g_X12_wrongs (Int32.ofInt 2) (S 99 3) S) 99 3) + (Int32.ofInt 1)))))))))
noncomputable def D_X12_reads  (H7 : Int32 → Int32 → v_Sf → Prop) (K : Int32 → v_Sf → Prop) (S : v_Sf) : Prop := H7 (S 99 3) (Int32.ofInt 0) S
set_option maxRecDepth 4000 in
theorem hd_X12_reads (L : Nat) (xs : Nat → Int32) {R : v_Rf}  (H7 : Int32 → Int32 → v_Sf → Prop) (K : Int32 → v_Sf → Prop) (k7 : ∀ (x1 : Int32) (x2 : Int32) (S : v_Sf), H7 x1 x2 S → D_X12_reads_7 H7 K x1 x2 S) : ∀ n, (∀ (d : Nat) (x1 : Int32) (x2 : Int32) (S : v_Sf), H7 x1 x2 S → u_P L xs n d m_X12_reads 7 [(0, .ref 100), (1, .int x1), (2, .int x2)] [] S R (z_Q R K)) := by
  intro n
  induction n using Nat.strongRecOn with
  | ind n ih =>
    intro d x1 x2 S hD
    have hD := k7 x1 x2 S hD
    unfold D_X12_reads_7 at hD
    show u_P L xs n d m_X12_reads 7 [(0, .ref 100), (1, .int x1), (2, .int x2)] [] S R _
    refine u_st1 rfl (fun _ => rfl) (fun m hm => ?_)
    show u_P L xs m d m_X12_reads 8 [(0, .ref 100), (1, .int x1), (2, .int x2)] [.ref 100] S R _
    refine u_cv (rest := []) rfl (by decide) mt_X12_isGood v_tyM rfl rfl rfl (Nat.le_of_ble_eq_true rfl) (Nat.le_of_ble_eq_true rfl) (Nat.le_of_ble_eq_true rfl) (fun d' => c_X12_isGood L xs m d' S R) ?_
    rintro _ _ _ ⟨_, rfl, rfl, rfl, rfl⟩
    show u_P L xs m d m_X12_reads 11 [(0, .ref 100), (1, .int x1), (2, .int x2)] [.int (f_X12_isGood S)] S R _
    refine u_if_eq rfl (fun h1 => ?_) (fun h1 => ?_)
    · have hD := hD.1 h1
      show u_P L xs m d m_X12_reads 66 [(0, .ref 100), (1, .int x1), (2, .int x2)] [] S R _
      refine u_st rfl (fun _ => rfl) ?_
      show u_P L xs m d m_X12_reads 67 [(0, .ref 100), (1, .int x1), (2, .int x2)] [.int x2] S R _
      exact u_ret rfl rfl ⟨_, rfl, rfl, hD⟩
    · have hD := hD.2 h1
      show u_P L xs m d m_X12_reads 14 [(0, .ref 100), (1, .int x1), (2, .int x2)] [] S R _
      refine u_st rfl (fun _ => rfl) ?_
      show u_P L xs m d m_X12_reads 15 [(0, .ref 100), (1, .int x1), (2, .int x2)] [.ref 100] S R _
      refine u_cv (rest := []) rfl (by decide) mt_X12_seesDigit v_tyM rfl rfl rfl (Nat.le_of_ble_eq_true rfl) (Nat.le_of_ble_eq_true rfl) (Nat.le_of_ble_eq_true rfl) (fun d' => c_X12_seesDigit L xs m d' S R) ?_
      rintro _ _ _ ⟨_, rfl, rfl, rfl, rfl⟩
      show u_P L xs m d m_X12_reads 18 [(0, .ref 100), (1, .int x1), (2, .int x2)] [.int (f_X12_seesDigit S)] S R _
      refine u_if_eq rfl (fun h2 => ?_) (fun h2 => ?_)
      · have hD := hD.1 h2
        show u_P L xs m d m_X12_reads 66 [(0, .ref 100), (1, .int x1), (2, .int x2)] [] S R _
        refine u_st rfl (fun _ => rfl) ?_
        show u_P L xs m d m_X12_reads 67 [(0, .ref 100), (1, .int x1), (2, .int x2)] [.int x2] S R _
        exact u_ret rfl rfl ⟨_, rfl, rfl, hD⟩
      · have hD := hD.2 h2
        show u_P L xs m d m_X12_reads 21 [(0, .ref 100), (1, .int x1), (2, .int x2)] [] S R _
        refine u_st rfl (fun _ => rfl) ?_
        show u_P L xs m d m_X12_reads 22 [(0, .ref 100), (1, .int x1), (2, .int x2)] [.ref 100] S R _
        refine u_getE (v := S 99 3) rfl v_tyM rfl rfl ?_
        refine u_st rfl (fun _ => rfl) ?_
        refine u_st rfl (fun _ => rfl) ?_
        refine u_st rfl (fun _ => rfl) ?_
        show u_P L xs m d m_X12_reads 28 [(0, .ref 100), (1, .int x1), (2, .int x2)] [.int (x1 + (Int32.ofInt 5)), .int (S 99 3)] S R _
        refine u_ic_ne rfl (fun h3 => ?_) (fun h3 => ?_)
        · have hD := hD.1 h3
          show u_P L xs m d m_X12_reads 40 [(0, .ref 100), (1, .int x1), (2, .int x2)] [] S R _
          refine u_st rfl (fun _ => rfl) ?_
          refine u_st rfl (fun _ => rfl) ?_
          refine u_st rfl (fun _ => rfl) ?_
          refine u_st rfl (fun _ => rfl) ?_
          show u_P L xs m d m_X12_reads 45 [(0, .ref 100), (1, .int x1), (2, .int x2)] [.ref 100, .int ((Int32.ofInt 10) * x2)] S R _
          refine u_cv (rest := [.int ((Int32.ofInt 10) * x2)]) rfl (by decide) mt_X12_here v_tyM rfl rfl rfl (Nat.le_of_ble_eq_true rfl) (Nat.le_of_ble_eq_true rfl) (Nat.le_of_ble_eq_true rfl) (fun d' => c_X12_here L xs m d' S R) ?_
          rintro _ _ _ ⟨_, rfl, rfl, rfl, rfl⟩
          refine u_st rfl (fun _ => rfl) ?_
          refine u_st rfl (fun _ => rfl) ?_
          refine u_st rfl (fun _ => rfl) ?_
          refine u_st rfl (fun _ => rfl) ?_
          refine u_st rfl (fun _ => rfl) ?_
          refine u_st rfl (fun _ => rfl) ?_
          show u_P L xs m d m_X12_reads 55 [(2, .int ((((Int32.ofInt 10) * x2) + (f_X12_here S)) - (Int32.ofInt 48))), (0, .ref 100), (1, .int x1)] [.ref 100, .ref 100] S R _
          refine u_getE (v := S 99 3) rfl v_tyM rfl rfl ?_
          refine u_st rfl (fun _ => rfl) ?_
          refine u_st rfl (fun _ => rfl) ?_
          show u_P L xs m d m_X12_reads 60 [(2, .int ((((Int32.ofInt 10) * x2) + (f_X12_here S)) - (Int32.ofInt 48))), (0, .ref 100), (1, .int x1)] [.int ((S 99 3) + (Int32.ofInt 1)), .ref 100] S R _
          refine u_put rfl v_tyM rfl ?_
          refine u_st rfl (fun _ => rfl) ?_
          refine u_lc (b := [(0, .ref 100), (1, .int x1), (2, .int ((((Int32.ofInt 10) * x2) + (f_X12_here S)) - (Int32.ofInt 48)))]) (show ([2, 0, 1] : List Nat).Nodup by decide) (show ([0, 1, 2] : List Nat).Nodup by decide) (fun i => match i with | 0 => rfl | 1 => rfl | 2 => rfl | _ + 3 => rfl) ?_
          exact (ih m hm) d x1 ((((Int32.ofInt 10) * x2) + (f_X12_here S)) - (Int32.ofInt 48)) (z_s S 99 3 ((S 99 3) + (Int32.ofInt 1))) hD
        · have hD := hD.2 h3
          show u_P L xs m d m_X12_reads 31 [(0, .ref 100), (1, .int x1), (2, .int x2)] [] S R _
          refine u_st rfl (fun _ => rfl) ?_
          refine u_st rfl (fun _ => rfl) ?_
          refine u_st rfl (fun _ => rfl) ?_
          show u_P L xs m d m_X12_reads 34 [(0, .ref 100), (1, .int x1), (2, .int x2)] [.ref 100, .int (Int32.ofInt 2), .ref 100] S R _
          refine u_getE (v := S 99 3) rfl v_tyM rfl rfl ?_
          show u_P L xs m d m_X12_reads 37 [(0, .ref 100), (1, .int x1), (2, .int x2)] [.int (S 99 3), .int (Int32.ofInt 2), .ref 100] S R _
          refine u_cv (rest := []) rfl (by decide) mt_X12_wrongs v_tyM rfl rfl rfl (Nat.le_of_ble_eq_true rfl) (Nat.le_of_ble_eq_true rfl) (Nat.le_of_ble_eq_true rfl) (fun d' => c_X12_wrongs L xs m d' (Int32.ofInt 2) (S 99 3) S R) ?_
          rintro _ _ _ ⟨rfl, rfl, rfl⟩
          refine u_st rfl (fun _ => rfl) ?_
          refine u_st rfl (fun _ => rfl) ?_
          refine u_st rfl (fun _ => rfl) ?_
          refine u_st rfl (fun _ => rfl) ?_
          show u_P L xs m d m_X12_reads 45 [(0, .ref 100), (1, .int x1), (2, .int x2)] [.ref 100, .int ((Int32.ofInt 10) * x2)] (g_X12_wrongs (Int32.ofInt 2) (S 99 3) S) R _
          refine u_cv (rest := [.int ((Int32.ofInt 10) * x2)]) rfl (by decide) mt_X12_here v_tyM rfl rfl rfl (Nat.le_of_ble_eq_true rfl) (Nat.le_of_ble_eq_true rfl) (Nat.le_of_ble_eq_true rfl) (fun d' => c_X12_here L xs m d' (g_X12_wrongs (Int32.ofInt 2) (S 99 3) S) R) ?_
          rintro _ _ _ ⟨_, rfl, rfl, rfl, rfl⟩
          refine u_st rfl (fun _ => rfl) ?_
          refine u_st rfl (fun _ => rfl) ?_
          refine u_st rfl (fun _ => rfl) ?_
          refine u_st rfl (fun _ => rfl) ?_
          refine u_st rfl (fun _ => rfl) ?_
          refine u_st rfl (fun _ => rfl) ?_
          show u_P L xs m d m_X12_reads 55 [(2, .int ((((Int32.ofInt 10) * x2) + (f_X12_here (g_X12_wrongs (Int32.ofInt 2) (S 99 3) S))) - (Int32.ofInt 48))), (0, .ref 100), (1, .int x1)] [.ref 100, .ref 100] (g_X12_wrongs (Int32.ofInt 2) (S 99 3) S) R _
          refine u_getE (v := (g_X12_wrongs (Int32.ofInt 2) (S 99 3) S) 99 3) rfl v_tyM rfl rfl ?_
          refine u_st rfl (fun _ => rfl) ?_
          refine u_st rfl (fun _ => rfl) ?_
          show u_P L xs m d m_X12_reads 60 [(2, .int ((((Int32.ofInt 10) * x2) + (f_X12_here (g_X12_wrongs (Int32.ofInt 2) (S 99 3) S))) - (Int32.ofInt 48))), (0, .ref 100), (1, .int x1)] [.int (((g_X12_wrongs (Int32.ofInt 2) (S 99 3) S) 99 3) + (Int32.ofInt 1)), .ref 100] (g_X12_wrongs (Int32.ofInt 2) (S 99 3) S) R _
          refine u_put rfl v_tyM rfl ?_
          refine u_st rfl (fun _ => rfl) ?_
          refine u_lc (b := [(0, .ref 100), (1, .int x1), (2, .int ((((Int32.ofInt 10) * x2) + (f_X12_here (g_X12_wrongs (Int32.ofInt 2) (S 99 3) S))) - (Int32.ofInt 48)))]) (show ([2, 0, 1] : List Nat).Nodup by decide) (show ([0, 1, 2] : List Nat).Nodup by decide) (fun i => match i with | 0 => rfl | 1 => rfl | 2 => rfl | _ + 3 => rfl) ?_
          exact (ih m hm) d x1 ((((Int32.ofInt 10) * x2) + (f_X12_here (g_X12_wrongs (Int32.ofInt 2) (S 99 3) S))) - (Int32.ofInt 48)) (z_s (g_X12_wrongs (Int32.ofInt 2) (S 99 3) S) 99 3 (((g_X12_wrongs (Int32.ofInt 2) (S 99 3) S) 99 3) + (Int32.ofInt 1))) hD
set_option maxRecDepth 4000 in
theorem w_X12_reads (L : Nat) (xs : Nat → Int32) {R : v_Rf}  (H7 : Int32 → Int32 → v_Sf → Prop) (K : Int32 → v_Sf → Prop) (k7 : ∀ (x1 : Int32) (x2 : Int32) (S : v_Sf), H7 x1 x2 S → D_X12_reads_7 H7 K x1 x2 S) (n d : Nat) (S : v_Sf) (hD : D_X12_reads H7 K S) : u_P L xs n d m_X12_reads 0 (lv_args 0 [.ref 100]) [] S R (z_Q R K) := by
  unfold D_X12_reads at hD
  show u_P L xs n d m_X12_reads 0 [(0, .ref 100)] [] S R _
  refine u_st rfl (fun _ => rfl) ?_
  show u_P L xs n d m_X12_reads 1 [(0, .ref 100)] [.ref 100] S R _
  refine u_getE (v := S 99 3) rfl v_tyM rfl rfl ?_
  refine u_st rfl (fun _ => rfl) ?_
  refine u_st rfl (fun _ => rfl) ?_
  refine u_st rfl (fun _ => rfl) ?_
  refine u_lc (b := [(0, .ref 100), (1, .int (S 99 3)), (2, .int (Int32.ofInt 0))]) (show ([2, 1, 0] : List Nat).Nodup by decide) (show ([0, 1, 2] : List Nat).Nodup by decide) (fun i => match i with | 0 => rfl | 1 => rfl | 2 => rfl | _ + 3 => rfl) ?_
  exact (hd_X12_reads L xs H7 K k7 n) d (S 99 3) (Int32.ofInt 0) S hD
noncomputable def s_X12_reads_7 (x1 : Int32) (x2 : Int32) (S : v_Sf) : (Int32 × v_Sf) ⊕ (Int32 × v_Sf) := (if (f_X12_isGood S) = 0 then (Sum.inr ((x2, S))) else (if (f_X12_seesDigit S) = 0 then (Sum.inr ((x2, S))) else (if ¬ (S 99 3) = (x1 + (Int32.ofInt 5)) then (Sum.inl (((((Int32.ofInt 10) * x2) + (f_X12_here S)) - (Int32.ofInt 48)), (z_s S 99 3 ((S 99 3) + (Int32.ofInt 1))))) else (Sum.inl (((((Int32.ofInt 10) * x2) + (f_X12_here (g_X12_wrongs (Int32.ofInt 2) (S 99 3) S))) - (Int32.ofInt 48)), (z_s (g_X12_wrongs (Int32.ofInt 2) (S 99 3) S) 99 3 (((g_X12_wrongs (Int32.ofInt 2) (S 99 3) S) 99 3) + (Int32.ofInt 1))))))))
noncomputable def F_X12_reads  (S : v_Sf) : Int32 × v_Sf := z_lim (fun p => s_X12_reads_7 (S 99 3) p.1 p.2) (Int32.ofInt 0, S) ((Int32.ofInt 0), S)
noncomputable def f_X12_reads  (S : v_Sf) : Int32 := (F_X12_reads  S).1
noncomputable def g_X12_reads  (S : v_Sf) : v_Sf := (F_X12_reads  S).2
theorem c_X12_reads (L : Nat) (xs : Nat → Int32) (n d : Nat)  (S : v_Sf) (R : v_Rf) : u_P L xs n d m_X12_reads 0 (lv_args 0 [.ref 100]) [] S R (z_Q R (fun v S1 => f_X12_reads  S = v ∧ g_X12_reads  S = S1)) := by
  refine w_X12_reads L xs  (fun y1 y2 T => S 99 3 = y1 ∧ (∀ N out, z_itr (fun p => s_X12_reads_7 (S 99 3) p.1 p.2) N (y2, T) = some out → F_X12_reads  S = out)) (fun v S1 => f_X12_reads  S = v ∧ g_X12_reads  S = S1) ?_ n d S ?_
  · rintro _ x2 S1 ⟨rfl, e⟩
    unfold D_X12_reads_7
    refine ⟨fun q1 => ?_, fun q1 => ?_⟩
    · have e := (e 1 _ (z_itr_r (by show s_X12_reads_7 (S 99 3) x2 S1 = _; rw [s_X12_reads_7, if_pos q1]))).symm
      have e1 := congrArg Prod.fst e.symm
      have e2 := congrArg Prod.snd e.symm
      exact ⟨e1, e2⟩
    · refine ⟨fun q2 => ?_, fun q2 => ?_⟩
      · have e := (e 1 _ (z_itr_r (by show s_X12_reads_7 (S 99 3) x2 S1 = _; rw [s_X12_reads_7, if_neg q1, if_pos q2]))).symm
        have e1 := congrArg Prod.fst e.symm
        have e2 := congrArg Prod.snd e.symm
        exact ⟨e1, e2⟩
      · refine ⟨fun q3 => ?_, fun q3 => ?_⟩
        · exact ⟨rfl, fun N out h => e (N + 1) out ((z_itr_l (by show s_X12_reads_7 (S 99 3) x2 S1 = _; rw [s_X12_reads_7, if_neg q1, if_neg q2, if_pos q3])).trans h)⟩
        · exact ⟨rfl, fun N out h => e (N + 1) out ((z_itr_l (by show s_X12_reads_7 (S 99 3) x2 S1 = _; rw [s_X12_reads_7, if_neg q1, if_neg q2, if_neg q3])).trans h)⟩
  · unfold D_X12_reads
    have e : z_lim (fun p => s_X12_reads_7 (S 99 3) p.1 p.2) (Int32.ofInt 0, S) ((Int32.ofInt 0), S) = F_X12_reads  S := by rw [F_X12_reads]
    exact ⟨rfl, fun N out h => e.symm.trans (z_lim_eq h)⟩
noncomputable def D_X12_sums_0  (H0 : Int32 → v_Sf → Prop) (K : v_Sf → Prop) (x1 : Int32) (S : v_Sf) : Prop := (((¬ (f_X12_isTimes (f_X12_top S)) = 0) → H0 x1 (z_s (g_X12_emit (f_X12_top S) (Int32.ofInt 0) S) 99 9 (((g_X12_emit (f_X12_top S) (Int32.ofInt 0) S) 99 9) - (Int32.ofInt 1)))) ∧ (¬ (¬ (f_X12_isTimes (f_X12_top S)) = 0) → ((x1 = 0 → K S) ∧ (¬ (x1 = 0) → (((f_X12_isPlus (f_X12_top S)) = 0 → K S) ∧ (¬ ((f_X12_isPlus (f_X12_top S)) = 0) → H0 x1 (z_s (g_X12_emit (f_X12_top S) (Int32.ofInt 0) S) 99 9 (((g_X12_emit (f_X12_top S) (Int32.ofInt 0) S) 99 9) - (Int32.ofInt 1)))))))))
noncomputable def D_X12_sums (a : Int32) (H0 : Int32 → v_Sf → Prop) (K : v_Sf → Prop) (S : v_Sf) : Prop := H0 a S
set_option maxRecDepth 4000 in
theorem hd_X12_sums (L : Nat) (xs : Nat → Int32) {R : v_Rf} (a : Int32) (H0 : Int32 → v_Sf → Prop) (K : v_Sf → Prop) (k0 : ∀ (x1 : Int32) (S : v_Sf), H0 x1 S → D_X12_sums_0 H0 K x1 S) : ∀ n, (∀ (d : Nat) (x1 : Int32) (S : v_Sf), H0 x1 S → u_P L xs n d m_X12_sums 0 [(0, .ref 100), (1, .int x1)] [] S R (z_V R K)) := by
  intro n
  induction n using Nat.strongRecOn with
  | ind n ih =>
    intro d x1 S hD
    have hD := k0 x1 S hD
    unfold D_X12_sums_0 at hD
    show u_P L xs n d m_X12_sums 0 [(0, .ref 100), (1, .int x1)] [] S R _
    refine u_st1 rfl (fun _ => rfl) (fun m hm => ?_)
    show u_P L xs m d m_X12_sums 1 [(0, .ref 100), (1, .int x1)] [.ref 100] S R _
    refine u_cv (rest := []) rfl (by decide) mt_X12_top v_tyM rfl rfl rfl (Nat.le_of_ble_eq_true rfl) (Nat.le_of_ble_eq_true rfl) (Nat.le_of_ble_eq_true rfl) (fun d' => c_X12_top L xs m d' S R) ?_
    rintro _ _ _ ⟨_, rfl, rfl, rfl, rfl⟩
    show u_P L xs m d m_X12_sums 4 [(0, .ref 100), (1, .int x1)] [.int (f_X12_top S)] S R _
    refine u_cs (ac := [.int (f_X12_top S)]) (rest := []) rfl (by decide) mt_X12_isTimes (fun _ => rfl) (Nat.le_of_ble_eq_true rfl) (Nat.le_of_ble_eq_true rfl) (fun d' => c_X12_isTimes L xs m d' (f_X12_top S) S R) ?_
    rintro _ _ _ ⟨_, rfl, rfl, rfl, rfl⟩
    show u_P L xs m d m_X12_sums 7 [(0, .ref 100), (1, .int x1)] [.int (f_X12_isTimes (f_X12_top S))] S R _
    refine u_if_ne rfl (fun h1 => ?_) (fun h1 => ?_)
    · have hD := hD.1 h1
      show u_P L xs m d m_X12_sums 24 [(0, .ref 100), (1, .int x1)] [] S R _
      refine u_st rfl (fun _ => rfl) ?_
      refine u_st rfl (fun _ => rfl) ?_
      show u_P L xs m d m_X12_sums 26 [(0, .ref 100), (1, .int x1)] [.ref 100, .ref 100] S R _
      refine u_cv (rest := [.ref 100]) rfl (by decide) mt_X12_top v_tyM rfl rfl rfl (Nat.le_of_ble_eq_true rfl) (Nat.le_of_ble_eq_true rfl) (Nat.le_of_ble_eq_true rfl) (fun d' => c_X12_top L xs m d' S R) ?_
      rintro _ _ _ ⟨_, rfl, rfl, rfl, rfl⟩
      refine u_st rfl (fun _ => rfl) ?_
      show u_P L xs m d m_X12_sums 30 [(0, .ref 100), (1, .int x1)] [.int (Int32.ofInt 0), .int (f_X12_top S), .ref 100] S R _
      refine u_cv (rest := []) rfl (by decide) mt_X12_emit v_tyM rfl rfl rfl (Nat.le_of_ble_eq_true rfl) (Nat.le_of_ble_eq_true rfl) (Nat.le_of_ble_eq_true rfl) (fun d' => c_X12_emit L xs m d' (f_X12_top S) (Int32.ofInt 0) S R) ?_
      rintro _ _ _ ⟨rfl, rfl, rfl⟩
      refine u_st rfl (fun _ => rfl) ?_
      refine u_st rfl (fun _ => rfl) ?_
      show u_P L xs m d m_X12_sums 35 [(0, .ref 100), (1, .int x1)] [.ref 100, .ref 100] (g_X12_emit (f_X12_top S) (Int32.ofInt 0) S) R _
      refine u_getE (v := (g_X12_emit (f_X12_top S) (Int32.ofInt 0) S) 99 9) rfl v_tyM rfl rfl ?_
      refine u_st rfl (fun _ => rfl) ?_
      refine u_st rfl (fun _ => rfl) ?_
      show u_P L xs m d m_X12_sums 40 [(0, .ref 100), (1, .int x1)] [.int (((g_X12_emit (f_X12_top S) (Int32.ofInt 0) S) 99 9) - (Int32.ofInt 1)), .ref 100] (g_X12_emit (f_X12_top S) (Int32.ofInt 0) S) R _
      refine u_put rfl v_tyM rfl ?_
      refine u_st rfl (fun _ => rfl) ?_
      exact (ih m hm) d x1 (z_s (g_X12_emit (f_X12_top S) (Int32.ofInt 0) S) 99 9 (((g_X12_emit (f_X12_top S) (Int32.ofInt 0) S) 99 9) - (Int32.ofInt 1))) hD
    · have hD := hD.2 h1
      show u_P L xs m d m_X12_sums 10 [(0, .ref 100), (1, .int x1)] [] S R _
      refine u_st rfl (fun _ => rfl) ?_
      show u_P L xs m d m_X12_sums 11 [(0, .ref 100), (1, .int x1)] [.int x1] S R _
      refine u_if_eq rfl (fun h2 => ?_) (fun h2 => ?_)
      · have hD := hD.1 h2
        show u_P L xs m d m_X12_sums 46 [(0, .ref 100), (1, .int x1)] [] S R _
        exact u_ret rfl rfl ⟨rfl, rfl, hD⟩
      · have hD := hD.2 h2
        show u_P L xs m d m_X12_sums 14 [(0, .ref 100), (1, .int x1)] [] S R _
        refine u_st rfl (fun _ => rfl) ?_
        show u_P L xs m d m_X12_sums 15 [(0, .ref 100), (1, .int x1)] [.ref 100] S R _
        refine u_cv (rest := []) rfl (by decide) mt_X12_top v_tyM rfl rfl rfl (Nat.le_of_ble_eq_true rfl) (Nat.le_of_ble_eq_true rfl) (Nat.le_of_ble_eq_true rfl) (fun d' => c_X12_top L xs m d' S R) ?_
        rintro _ _ _ ⟨_, rfl, rfl, rfl, rfl⟩
        show u_P L xs m d m_X12_sums 18 [(0, .ref 100), (1, .int x1)] [.int (f_X12_top S)] S R _
        refine u_cs (ac := [.int (f_X12_top S)]) (rest := []) rfl (by decide) mt_X12_isPlus (fun _ => rfl) (Nat.le_of_ble_eq_true rfl) (Nat.le_of_ble_eq_true rfl) (fun d' => c_X12_isPlus L xs m d' (f_X12_top S) S R) ?_
        rintro _ _ _ ⟨_, rfl, rfl, rfl, rfl⟩
        show u_P L xs m d m_X12_sums 21 [(0, .ref 100), (1, .int x1)] [.int (f_X12_isPlus (f_X12_top S))] S R _
        refine u_if_eq rfl (fun h3 => ?_) (fun h3 => ?_)
        · have hD := hD.1 h3
          show u_P L xs m d m_X12_sums 46 [(0, .ref 100), (1, .int x1)] [] S R _
          exact u_ret rfl rfl ⟨rfl, rfl, hD⟩
        · have hD := hD.2 h3
          show u_P L xs m d m_X12_sums 24 [(0, .ref 100), (1, .int x1)] [] S R _
          refine u_st rfl (fun _ => rfl) ?_
          refine u_st rfl (fun _ => rfl) ?_
          show u_P L xs m d m_X12_sums 26 [(0, .ref 100), (1, .int x1)] [.ref 100, .ref 100] S R _
          refine u_cv (rest := [.ref 100]) rfl (by decide) mt_X12_top v_tyM rfl rfl rfl (Nat.le_of_ble_eq_true rfl) (Nat.le_of_ble_eq_true rfl) (Nat.le_of_ble_eq_true rfl) (fun d' => c_X12_top L xs m d' S R) ?_
          rintro _ _ _ ⟨_, rfl, rfl, rfl, rfl⟩
          refine u_st rfl (fun _ => rfl) ?_
          show u_P L xs m d m_X12_sums 30 [(0, .ref 100), (1, .int x1)] [.int (Int32.ofInt 0), .int (f_X12_top S), .ref 100] S R _
          refine u_cv (rest := []) rfl (by decide) mt_X12_emit v_tyM rfl rfl rfl (Nat.le_of_ble_eq_true rfl) (Nat.le_of_ble_eq_true rfl) (Nat.le_of_ble_eq_true rfl) (fun d' => c_X12_emit L xs m d' (f_X12_top S) (Int32.ofInt 0) S R) ?_
          rintro _ _ _ ⟨rfl, rfl, rfl⟩
          refine u_st rfl (fun _ => rfl) ?_
          refine u_st rfl (fun _ => rfl) ?_
          show u_P L xs m d m_X12_sums 35 [(0, .ref 100), (1, .int x1)] [.ref 100, .ref 100] (g_X12_emit (f_X12_top S) (Int32.ofInt 0) S) R _
          refine u_getE (v := (g_X12_emit (f_X12_top S) (Int32.ofInt 0) S) 99 9) rfl v_tyM rfl rfl ?_
          refine u_st rfl (fun _ => rfl) ?_
          refine u_st rfl (fun _ => rfl) ?_
          show u_P L xs m d m_X12_sums 40 [(0, .ref 100), (1, .int x1)] [.int (((g_X12_emit (f_X12_top S) (Int32.ofInt 0) S) 99 9) - (Int32.ofInt 1)), .ref 100] (g_X12_emit (f_X12_top S) (Int32.ofInt 0) S) R _
          refine u_put rfl v_tyM rfl ?_
          refine u_st rfl (fun _ => rfl) ?_
          exact (ih m hm) d x1 (z_s (g_X12_emit (f_X12_top S) (Int32.ofInt 0) S) 99 9 (((g_X12_emit (f_X12_top S) (Int32.ofInt 0) S) 99 9) - (Int32.ofInt 1))) hD
set_option maxRecDepth 4000 in
theorem w_X12_sums (L : Nat) (xs : Nat → Int32) {R : v_Rf} (a : Int32) (H0 : Int32 → v_Sf → Prop) (K : v_Sf → Prop) (k0 : ∀ (x1 : Int32) (S : v_Sf), H0 x1 S → D_X12_sums_0 H0 K x1 S) (n d : Nat) (S : v_Sf) (hD : D_X12_sums a H0 K S) : u_P L xs n d m_X12_sums 0 (lv_args 0 [.ref 100, .int a]) [] S R (z_V R K) := by
  unfold D_X12_sums at hD
  show u_P L xs n d m_X12_sums 0 [(0, .ref 100), (1, .int a)] [] S R _
  exact (hd_X12_sums L xs a H0 K k0 n) d a S hD
noncomputable def s_X12_sums_0 (x1 : Int32) (S : v_Sf) : (v_Sf) ⊕ (v_Sf) := (if ¬ (f_X12_isTimes (f_X12_top S)) = 0 then (Sum.inl (z_s (g_X12_emit (f_X12_top S) (Int32.ofInt 0) S) 99 9 (((g_X12_emit (f_X12_top S) (Int32.ofInt 0) S) 99 9) - (Int32.ofInt 1)))) else (if x1 = 0 then (Sum.inr (S)) else (if (f_X12_isPlus (f_X12_top S)) = 0 then (Sum.inr (S)) else (Sum.inl (z_s (g_X12_emit (f_X12_top S) (Int32.ofInt 0) S) 99 9 (((g_X12_emit (f_X12_top S) (Int32.ofInt 0) S) 99 9) - (Int32.ofInt 1)))))))
noncomputable def F_X12_sums (a : Int32) (S : v_Sf) : v_Sf := z_lim (fun p => s_X12_sums_0 a p) S S
noncomputable def g_X12_sums (a : Int32) (S : v_Sf) : v_Sf := F_X12_sums a S
theorem c_X12_sums (L : Nat) (xs : Nat → Int32) (n d : Nat) (a : Int32) (S : v_Sf) (R : v_Rf) : u_P L xs n d m_X12_sums 0 (lv_args 0 [.ref 100, .int a]) [] S R (z_V R (fun S1 => g_X12_sums a S = S1)) := by
  refine w_X12_sums L xs a (fun y1 T => a = y1 ∧ (∀ N out, z_itr (fun p => s_X12_sums_0 a p) N T = some out → F_X12_sums a S = out)) (fun S1 => g_X12_sums a S = S1) ?_ n d S ?_
  · rintro _ S1 ⟨rfl, e⟩
    unfold D_X12_sums_0
    refine ⟨fun q1 => ?_, fun q1 => ?_⟩
    · exact ⟨rfl, fun N out h => e (N + 1) out ((z_itr_l (by show s_X12_sums_0 a S1 = _; rw [s_X12_sums_0, if_pos q1])).trans h)⟩
    · refine ⟨fun q2 => ?_, fun q2 => ?_⟩
      · have e := (e 1 _ (z_itr_r (by show s_X12_sums_0 a S1 = _; rw [s_X12_sums_0, if_neg q1, if_pos q2]))).symm
        exact e.symm
      · refine ⟨fun q3 => ?_, fun q3 => ?_⟩
        · have e := (e 1 _ (z_itr_r (by show s_X12_sums_0 a S1 = _; rw [s_X12_sums_0, if_neg q1, if_neg q2, if_pos q3]))).symm
          exact e.symm
        · exact ⟨rfl, fun N out h => e (N + 1) out ((z_itr_l (by show s_X12_sums_0 a S1 = _; rw [s_X12_sums_0, if_neg q1, if_neg q2, if_neg q3])).trans h)⟩
  · unfold D_X12_sums
    have e : z_lim (fun p => s_X12_sums_0 a p) S S = F_X12_sums a S := by rw [F_X12_sums]
    exact ⟨rfl, fun N out h => e.symm.trans (z_lim_eq h)⟩
noncomputable def D_X12_joins_0  (H0 : Int32 → v_Sf → Prop) (K : v_Sf → Prop) (x1 : Int32) (S : v_Sf) : Prop := (((f_X12_top S) = (Int32.ofInt 38) → H0 x1 (z_s (g_X12_emit (f_X12_top S) (Int32.ofInt 0) S) 99 9 (((g_X12_emit (f_X12_top S) (Int32.ofInt 0) S) 99 9) - (Int32.ofInt 1)))) ∧ (¬ ((f_X12_top S) = (Int32.ofInt 38)) → ((x1 = 0 → K S) ∧ (¬ (x1 = 0) → (((¬ (f_X12_top S) = (Int32.ofInt 124)) → K S) ∧ (¬ (¬ (f_X12_top S) = (Int32.ofInt 124)) → H0 x1 (z_s (g_X12_emit (f_X12_top S) (Int32.ofInt 0) S) 99 9 (((g_X12_emit (f_X12_top S) (Int32.ofInt 0) S) 99 9) - (Int32.ofInt 1)))))))))
noncomputable def D_X12_joins (a : Int32) (H0 : Int32 → v_Sf → Prop) (K : v_Sf → Prop) (S : v_Sf) : Prop := H0 a S
set_option maxRecDepth 4000 in
theorem hd_X12_joins (L : Nat) (xs : Nat → Int32) {R : v_Rf} (a : Int32) (H0 : Int32 → v_Sf → Prop) (K : v_Sf → Prop) (k0 : ∀ (x1 : Int32) (S : v_Sf), H0 x1 S → D_X12_joins_0 H0 K x1 S) : ∀ n, (∀ (d : Nat) (x1 : Int32) (S : v_Sf), H0 x1 S → u_P L xs n d m_X12_joins 0 [(0, .ref 100), (1, .int x1)] [] S R (z_V R K)) := by
  intro n
  induction n using Nat.strongRecOn with
  | ind n ih =>
    intro d x1 S hD
    have hD := k0 x1 S hD
    unfold D_X12_joins_0 at hD
    show u_P L xs n d m_X12_joins 0 [(0, .ref 100), (1, .int x1)] [] S R _
    refine u_st1 rfl (fun _ => rfl) (fun m hm => ?_)
    show u_P L xs m d m_X12_joins 1 [(0, .ref 100), (1, .int x1)] [.ref 100] S R _
    refine u_cv (rest := []) rfl (by decide) mt_X12_top v_tyM rfl rfl rfl (Nat.le_of_ble_eq_true rfl) (Nat.le_of_ble_eq_true rfl) (Nat.le_of_ble_eq_true rfl) (fun d' => c_X12_top L xs m d' S R) ?_
    rintro _ _ _ ⟨_, rfl, rfl, rfl, rfl⟩
    refine u_st rfl (fun _ => rfl) ?_
    show u_P L xs m d m_X12_joins 6 [(0, .ref 100), (1, .int x1)] [.int (Int32.ofInt 38), .int (f_X12_top S)] S R _
    refine u_ic_eq rfl (fun h1 => ?_) (fun h1 => ?_)
    · have hD := hD.1 h1
      show u_P L xs m d m_X12_joins 22 [(0, .ref 100), (1, .int x1)] [] S R _
      refine u_st rfl (fun _ => rfl) ?_
      refine u_st rfl (fun _ => rfl) ?_
      show u_P L xs m d m_X12_joins 24 [(0, .ref 100), (1, .int x1)] [.ref 100, .ref 100] S R _
      refine u_cv (rest := [.ref 100]) rfl (by decide) mt_X12_top v_tyM rfl rfl rfl (Nat.le_of_ble_eq_true rfl) (Nat.le_of_ble_eq_true rfl) (Nat.le_of_ble_eq_true rfl) (fun d' => c_X12_top L xs m d' S R) ?_
      rintro _ _ _ ⟨_, rfl, rfl, rfl, rfl⟩
      refine u_st rfl (fun _ => rfl) ?_
      show u_P L xs m d m_X12_joins 28 [(0, .ref 100), (1, .int x1)] [.int (Int32.ofInt 0), .int (f_X12_top S), .ref 100] S R _
      refine u_cv (rest := []) rfl (by decide) mt_X12_emit v_tyM rfl rfl rfl (Nat.le_of_ble_eq_true rfl) (Nat.le_of_ble_eq_true rfl) (Nat.le_of_ble_eq_true rfl) (fun d' => c_X12_emit L xs m d' (f_X12_top S) (Int32.ofInt 0) S R) ?_
      rintro _ _ _ ⟨rfl, rfl, rfl⟩
      refine u_st rfl (fun _ => rfl) ?_
      refine u_st rfl (fun _ => rfl) ?_
      show u_P L xs m d m_X12_joins 33 [(0, .ref 100), (1, .int x1)] [.ref 100, .ref 100] (g_X12_emit (f_X12_top S) (Int32.ofInt 0) S) R _
      refine u_getE (v := (g_X12_emit (f_X12_top S) (Int32.ofInt 0) S) 99 9) rfl v_tyM rfl rfl ?_
      refine u_st rfl (fun _ => rfl) ?_
      refine u_st rfl (fun _ => rfl) ?_
      show u_P L xs m d m_X12_joins 38 [(0, .ref 100), (1, .int x1)] [.int (((g_X12_emit (f_X12_top S) (Int32.ofInt 0) S) 99 9) - (Int32.ofInt 1)), .ref 100] (g_X12_emit (f_X12_top S) (Int32.ofInt 0) S) R _
      refine u_put rfl v_tyM rfl ?_
      refine u_st rfl (fun _ => rfl) ?_
      exact (ih m hm) d x1 (z_s (g_X12_emit (f_X12_top S) (Int32.ofInt 0) S) 99 9 (((g_X12_emit (f_X12_top S) (Int32.ofInt 0) S) 99 9) - (Int32.ofInt 1))) hD
    · have hD := hD.2 h1
      show u_P L xs m d m_X12_joins 9 [(0, .ref 100), (1, .int x1)] [] S R _
      refine u_st rfl (fun _ => rfl) ?_
      show u_P L xs m d m_X12_joins 10 [(0, .ref 100), (1, .int x1)] [.int x1] S R _
      refine u_if_eq rfl (fun h2 => ?_) (fun h2 => ?_)
      · have hD := hD.1 h2
        show u_P L xs m d m_X12_joins 44 [(0, .ref 100), (1, .int x1)] [] S R _
        exact u_ret rfl rfl ⟨rfl, rfl, hD⟩
      · have hD := hD.2 h2
        show u_P L xs m d m_X12_joins 13 [(0, .ref 100), (1, .int x1)] [] S R _
        refine u_st rfl (fun _ => rfl) ?_
        show u_P L xs m d m_X12_joins 14 [(0, .ref 100), (1, .int x1)] [.ref 100] S R _
        refine u_cv (rest := []) rfl (by decide) mt_X12_top v_tyM rfl rfl rfl (Nat.le_of_ble_eq_true rfl) (Nat.le_of_ble_eq_true rfl) (Nat.le_of_ble_eq_true rfl) (fun d' => c_X12_top L xs m d' S R) ?_
        rintro _ _ _ ⟨_, rfl, rfl, rfl, rfl⟩
        refine u_st rfl (fun _ => rfl) ?_
        show u_P L xs m d m_X12_joins 19 [(0, .ref 100), (1, .int x1)] [.int (Int32.ofInt 124), .int (f_X12_top S)] S R _
        refine u_ic_ne rfl (fun h3 => ?_) (fun h3 => ?_)
        · have hD := hD.1 h3
          show u_P L xs m d m_X12_joins 44 [(0, .ref 100), (1, .int x1)] [] S R _
          exact u_ret rfl rfl ⟨rfl, rfl, hD⟩
        · have hD := hD.2 h3
          show u_P L xs m d m_X12_joins 22 [(0, .ref 100), (1, .int x1)] [] S R _
          refine u_st rfl (fun _ => rfl) ?_
          refine u_st rfl (fun _ => rfl) ?_
          show u_P L xs m d m_X12_joins 24 [(0, .ref 100), (1, .int x1)] [.ref 100, .ref 100] S R _
          refine u_cv (rest := [.ref 100]) rfl (by decide) mt_X12_top v_tyM rfl rfl rfl (Nat.le_of_ble_eq_true rfl) (Nat.le_of_ble_eq_true rfl) (Nat.le_of_ble_eq_true rfl) (fun d' => c_X12_top L xs m d' S R) ?_
          rintro _ _ _ ⟨_, rfl, rfl, rfl, rfl⟩
          refine u_st rfl (fun _ => rfl) ?_
          show u_P L xs m d m_X12_joins 28 [(0, .ref 100), (1, .int x1)] [.int (Int32.ofInt 0), .int (f_X12_top S), .ref 100] S R _
          refine u_cv (rest := []) rfl (by decide) mt_X12_emit v_tyM rfl rfl rfl (Nat.le_of_ble_eq_true rfl) (Nat.le_of_ble_eq_true rfl) (Nat.le_of_ble_eq_true rfl) (fun d' => c_X12_emit L xs m d' (f_X12_top S) (Int32.ofInt 0) S R) ?_
          rintro _ _ _ ⟨rfl, rfl, rfl⟩
          refine u_st rfl (fun _ => rfl) ?_
          refine u_st rfl (fun _ => rfl) ?_
          show u_P L xs m d m_X12_joins 33 [(0, .ref 100), (1, .int x1)] [.ref 100, .ref 100] (g_X12_emit (f_X12_top S) (Int32.ofInt 0) S) R _
          refine u_getE (v := (g_X12_emit (f_X12_top S) (Int32.ofInt 0) S) 99 9) rfl v_tyM rfl rfl ?_
          refine u_st rfl (fun _ => rfl) ?_
          refine u_st rfl (fun _ => rfl) ?_
          show u_P L xs m d m_X12_joins 38 [(0, .ref 100), (1, .int x1)] [.int (((g_X12_emit (f_X12_top S) (Int32.ofInt 0) S) 99 9) - (Int32.ofInt 1)), .ref 100] (g_X12_emit (f_X12_top S) (Int32.ofInt 0) S) R _
          refine u_put rfl v_tyM rfl ?_
          refine u_st rfl (fun _ => rfl) ?_
          exact (ih m hm) d x1 (z_s (g_X12_emit (f_X12_top S) (Int32.ofInt 0) S) 99 9 (((g_X12_emit (f_X12_top S) (Int32.ofInt 0) S) 99 9) - (Int32.ofInt 1))) hD
set_option maxRecDepth 4000 in
theorem w_X12_joins (L : Nat) (xs : Nat → Int32) {R : v_Rf} (a : Int32) (H0 : Int32 → v_Sf → Prop) (K : v_Sf → Prop) (k0 : ∀ (x1 : Int32) (S : v_Sf), H0 x1 S → D_X12_joins_0 H0 K x1 S) (n d : Nat) (S : v_Sf) (hD : D_X12_joins a H0 K S) : u_P L xs n d m_X12_joins 0 (lv_args 0 [.ref 100, .int a]) [] S R (z_V R K) := by
  unfold D_X12_joins at hD
  show u_P L xs n d m_X12_joins 0 [(0, .ref 100), (1, .int a)] [] S R _
  exact (hd_X12_joins L xs a H0 K k0 n) d a S hD
noncomputable def s_X12_joins_0 (x1 : Int32) (S : v_Sf) : (v_Sf) ⊕ (v_Sf) := (if (f_X12_top S) = (Int32.ofInt 38) then (Sum.inl (z_s (g_X12_emit (f_X12_top S) (Int32.ofInt 0) S) 99 9 (((g_X12_emit (f_X12_top S) (Int32.ofInt 0) S) 99 9) - (Int32.ofInt 1)))) else (if x1 = 0 then (Sum.inr (S)) else (if ¬ (f_X12_top S) = (Int32.ofInt 124) then (Sum.inr (S)) else (Sum.inl (z_s (g_X12_emit (f_X12_top S) (Int32.ofInt 0) S) 99 9 (((g_X12_emit (f_X12_top S) (Int32.ofInt 0) S) 99 9) - (Int32.ofInt 1)))))))
noncomputable def F_X12_joins (a : Int32) (S : v_Sf) : v_Sf := z_lim (fun p => s_X12_joins_0 a p) S S
noncomputable def g_X12_joins (a : Int32) (S : v_Sf) : v_Sf := F_X12_joins a S
theorem c_X12_joins (L : Nat) (xs : Nat → Int32) (n d : Nat) (a : Int32) (S : v_Sf) (R : v_Rf) : u_P L xs n d m_X12_joins 0 (lv_args 0 [.ref 100, .int a]) [] S R (z_V R (fun S1 => g_X12_joins a S = S1)) := by
  refine w_X12_joins L xs a (fun y1 T => a = y1 ∧ (∀ N out, z_itr (fun p => s_X12_joins_0 a p) N T = some out → F_X12_joins a S = out)) (fun S1 => g_X12_joins a S = S1) ?_ n d S ?_
  · rintro _ S1 ⟨rfl, e⟩
    unfold D_X12_joins_0
    refine ⟨fun q1 => ?_, fun q1 => ?_⟩
    · exact ⟨rfl, fun N out h => e (N + 1) out ((z_itr_l (by show s_X12_joins_0 a S1 = _; rw [s_X12_joins_0, if_pos q1])).trans h)⟩
    · refine ⟨fun q2 => ?_, fun q2 => ?_⟩
      · have e := (e 1 _ (z_itr_r (by show s_X12_joins_0 a S1 = _; rw [s_X12_joins_0, if_neg q1, if_pos q2]))).symm
        exact e.symm
      · refine ⟨fun q3 => ?_, fun q3 => ?_⟩
        · have e := (e 1 _ (z_itr_r (by show s_X12_joins_0 a S1 = _; rw [s_X12_joins_0, if_neg q1, if_neg q2, if_pos q3]))).symm
          exact e.symm
        · exact ⟨rfl, fun N out h => e (N + 1) out ((z_itr_l (by show s_X12_joins_0 a S1 = _; rw [s_X12_joins_0, if_neg q1, if_neg q2, if_neg q3])).trans h)⟩
  · unfold D_X12_joins
    have e : z_lim (fun p => s_X12_joins_0 a p) S S = F_X12_joins a S := by rw [F_X12_joins]
    exact ⟨rfl, fun N out h => e.symm.trans (z_lim_eq h)⟩
noncomputable def D_X12_ends_0  (H0 : v_Sf → Prop) (K : v_Sf → Prop)  (S : v_Sf) : Prop := (((¬ (f_X12_top S) = (Int32.ofInt 33)) → K S) ∧ (¬ (¬ (f_X12_top S) = (Int32.ofInt 33)) → H0 (z_s (z_s (g_X12_emit (Int32.ofInt 2) (Int32.ofInt 0) S) 99 9 (((g_X12_emit (Int32.ofInt 2) (Int32.ofInt 0) S) 99 9) - (Int32.ofInt 1))) 99 8 (((g_X12_emit (Int32.ofInt 2) (Int32.ofInt 0) S) 99 8) - (Int32.ofInt 1)))))
noncomputable def D_X12_ends  (H0 : v_Sf → Prop) (K : v_Sf → Prop) (S : v_Sf) : Prop := H0 S
set_option maxRecDepth 4000 in
theorem hd_X12_ends (L : Nat) (xs : Nat → Int32) {R : v_Rf}  (H0 : v_Sf → Prop) (K : v_Sf → Prop) (k0 : ∀  (S : v_Sf), H0  S → D_X12_ends_0 H0 K S) : ∀ n, (∀ (d : Nat)  (S : v_Sf), H0  S → u_P L xs n d m_X12_ends 0 [(0, .ref 100)] [] S R (z_V R K)) := by
  intro n
  induction n using Nat.strongRecOn with
  | ind n ih =>
    intro d  S hD
    have hD := k0  S hD
    unfold D_X12_ends_0 at hD
    show u_P L xs n d m_X12_ends 0 [(0, .ref 100)] [] S R _
    refine u_st1 rfl (fun _ => rfl) (fun m hm => ?_)
    show u_P L xs m d m_X12_ends 1 [(0, .ref 100)] [.ref 100] S R _
    refine u_cv (rest := []) rfl (by decide) mt_X12_top v_tyM rfl rfl rfl (Nat.le_of_ble_eq_true rfl) (Nat.le_of_ble_eq_true rfl) (Nat.le_of_ble_eq_true rfl) (fun d' => c_X12_top L xs m d' S R) ?_
    rintro _ _ _ ⟨_, rfl, rfl, rfl, rfl⟩
    refine u_st rfl (fun _ => rfl) ?_
    show u_P L xs m d m_X12_ends 6 [(0, .ref 100)] [.int (Int32.ofInt 33), .int (f_X12_top S)] S R _
    refine u_ic_ne rfl (fun h1 => ?_) (fun h1 => ?_)
    · have hD := hD.1 h1
      show u_P L xs m d m_X12_ends 38 [(0, .ref 100)] [] S R _
      exact u_ret rfl rfl ⟨rfl, rfl, hD⟩
    · have hD := hD.2 h1
      show u_P L xs m d m_X12_ends 9 [(0, .ref 100)] [] S R _
      refine u_st rfl (fun _ => rfl) ?_
      refine u_st rfl (fun _ => rfl) ?_
      refine u_st rfl (fun _ => rfl) ?_
      show u_P L xs m d m_X12_ends 12 [(0, .ref 100)] [.int (Int32.ofInt 0), .int (Int32.ofInt 2), .ref 100] S R _
      refine u_cv (rest := []) rfl (by decide) mt_X12_emit v_tyM rfl rfl rfl (Nat.le_of_ble_eq_true rfl) (Nat.le_of_ble_eq_true rfl) (Nat.le_of_ble_eq_true rfl) (fun d' => c_X12_emit L xs m d' (Int32.ofInt 2) (Int32.ofInt 0) S R) ?_
      rintro _ _ _ ⟨rfl, rfl, rfl⟩
      refine u_st rfl (fun _ => rfl) ?_
      refine u_st rfl (fun _ => rfl) ?_
      show u_P L xs m d m_X12_ends 17 [(0, .ref 100)] [.ref 100, .ref 100] (g_X12_emit (Int32.ofInt 2) (Int32.ofInt 0) S) R _
      refine u_getE (v := (g_X12_emit (Int32.ofInt 2) (Int32.ofInt 0) S) 99 9) rfl v_tyM rfl rfl ?_
      refine u_st rfl (fun _ => rfl) ?_
      refine u_st rfl (fun _ => rfl) ?_
      show u_P L xs m d m_X12_ends 22 [(0, .ref 100)] [.int (((g_X12_emit (Int32.ofInt 2) (Int32.ofInt 0) S) 99 9) - (Int32.ofInt 1)), .ref 100] (g_X12_emit (Int32.ofInt 2) (Int32.ofInt 0) S) R _
      refine u_put rfl v_tyM rfl ?_
      refine u_st rfl (fun _ => rfl) ?_
      refine u_st rfl (fun _ => rfl) ?_
      show u_P L xs m d m_X12_ends 27 [(0, .ref 100)] [.ref 100, .ref 100] (z_s (g_X12_emit (Int32.ofInt 2) (Int32.ofInt 0) S) 99 9 (((g_X12_emit (Int32.ofInt 2) (Int32.ofInt 0) S) 99 9) - (Int32.ofInt 1))) R _
      refine u_getE (v := (g_X12_emit (Int32.ofInt 2) (Int32.ofInt 0) S) 99 8) rfl v_tyM rfl (z_sn (fun h => absurd h.2 (by decide))) ?_
      refine u_st rfl (fun _ => rfl) ?_
      refine u_st rfl (fun _ => rfl) ?_
      show u_P L xs m d m_X12_ends 32 [(0, .ref 100)] [.int (((g_X12_emit (Int32.ofInt 2) (Int32.ofInt 0) S) 99 8) - (Int32.ofInt 1)), .ref 100] (z_s (g_X12_emit (Int32.ofInt 2) (Int32.ofInt 0) S) 99 9 (((g_X12_emit (Int32.ofInt 2) (Int32.ofInt 0) S) 99 9) - (Int32.ofInt 1))) R _
      refine u_put rfl v_tyM rfl ?_
      refine u_st rfl (fun _ => rfl) ?_
      exact (ih m hm) d (z_s (z_s (g_X12_emit (Int32.ofInt 2) (Int32.ofInt 0) S) 99 9 (((g_X12_emit (Int32.ofInt 2) (Int32.ofInt 0) S) 99 9) - (Int32.ofInt 1))) 99 8 (((g_X12_emit (Int32.ofInt 2) (Int32.ofInt 0) S) 99 8) - (Int32.ofInt 1))) hD
set_option maxRecDepth 4000 in
theorem w_X12_ends (L : Nat) (xs : Nat → Int32) {R : v_Rf}  (H0 : v_Sf → Prop) (K : v_Sf → Prop) (k0 : ∀  (S : v_Sf), H0  S → D_X12_ends_0 H0 K S) (n d : Nat) (S : v_Sf) (hD : D_X12_ends H0 K S) : u_P L xs n d m_X12_ends 0 (lv_args 0 [.ref 100]) [] S R (z_V R K) := by
  unfold D_X12_ends at hD
  show u_P L xs n d m_X12_ends 0 [(0, .ref 100)] [] S R _
  exact (hd_X12_ends L xs H0 K k0 n) d S hD
noncomputable def s_X12_ends_0 (S : v_Sf) : (v_Sf) ⊕ (v_Sf) := (if ¬ (f_X12_top S) = (Int32.ofInt 33) then (Sum.inr (S)) else (Sum.inl (z_s (z_s (g_X12_emit (Int32.ofInt 2) (Int32.ofInt 0) S) 99 9 (((g_X12_emit (Int32.ofInt 2) (Int32.ofInt 0) S) 99 9) - (Int32.ofInt 1))) 99 8 (((g_X12_emit (Int32.ofInt 2) (Int32.ofInt 0) S) 99 8) - (Int32.ofInt 1)))))
noncomputable def F_X12_ends  (S : v_Sf) : v_Sf := z_lim (fun p => s_X12_ends_0 p) S S
noncomputable def g_X12_ends  (S : v_Sf) : v_Sf := F_X12_ends  S
theorem c_X12_ends (L : Nat) (xs : Nat → Int32) (n d : Nat)  (S : v_Sf) (R : v_Rf) : u_P L xs n d m_X12_ends 0 (lv_args 0 [.ref 100]) [] S R (z_V R (fun S1 => g_X12_ends  S = S1)) := by
  refine w_X12_ends L xs  (fun  T => (∀ N out, z_itr (fun p => s_X12_ends_0 p) N T = some out → F_X12_ends  S = out)) (fun S1 => g_X12_ends  S = S1) ?_ n d S ?_
  · rintro  S1 e
    unfold D_X12_ends_0
    refine ⟨fun q1 => ?_, fun q1 => ?_⟩
    · have e := (e 1 _ (z_itr_r (by show s_X12_ends_0 S1 = _; rw [s_X12_ends_0, if_pos q1]))).symm
      exact e.symm
    · exact fun N out h => e (N + 1) out ((z_itr_l (by show s_X12_ends_0 S1 = _; rw [s_X12_ends_0, if_neg q1])).trans h)
  · unfold D_X12_ends
    have e : z_lim (fun p => s_X12_ends_0 p) S S = F_X12_ends  S := by rw [F_X12_ends]
    exact fun N out h => e.symm.trans (z_lim_eq h)
noncomputable def D_X12_factor_0  (H0 : v_Sf → Prop) (K : v_Sf → Prop)  (S : v_Sf) : Prop := (((f_X12_isGood S) = 0 → K S) ∧ (¬ ((f_X12_isGood S) = 0) → (((¬ (f_X12_here S) = (Int32.ofInt 91)) → (((f_X12_seesDigit S) = 0 → (((f_X12_isValue (f_X12_here S)) = 0 → K (g_X12_wrongs (Int32.ofInt 1) (S 99 3) S)) ∧ (¬ ((f_X12_isValue (f_X12_here S)) = 0) → K (z_s (g_X12_emit (Int32.ofInt 1) (f_X12_here S) S) 99 3 (((g_X12_emit (Int32.ofInt 1) (f_X12_here S) S) 99 3) + (Int32.ofInt 1)))))) ∧ (¬ ((f_X12_seesDigit S) = 0) → K (g_X12_emit (Int32.ofInt 0) (f_X12_reads S) (g_X12_reads S))))) ∧ (¬ (¬ (f_X12_here S) = (Int32.ofInt 91)) → H0 (g_X12_opens S)))))
noncomputable def D_X12_factor  (H0 : v_Sf → Prop) (K : v_Sf → Prop) (S : v_Sf) : Prop := H0 S
set_option maxRecDepth 4000 in
theorem hd_X12_factor (L : Nat) (xs : Nat → Int32) {R : v_Rf}  (H0 : v_Sf → Prop) (K : v_Sf → Prop) (k0 : ∀  (S : v_Sf), H0  S → D_X12_factor_0 H0 K S) : ∀ n, (∀ (d : Nat)  (S : v_Sf), H0  S → u_P L xs n d m_X12_factor 0 [(0, .ref 100)] [] S R (z_V R K)) := by
  intro n
  induction n using Nat.strongRecOn with
  | ind n ih =>
    intro d  S hD
    have hD := k0  S hD
    unfold D_X12_factor_0 at hD
    show u_P L xs n d m_X12_factor 0 [(0, .ref 100)] [] S R _
    refine u_st1 rfl (fun _ => rfl) (fun m hm => ?_)
    show u_P L xs m d m_X12_factor 1 [(0, .ref 100)] [.ref 100] S R _
    refine u_cv (rest := []) rfl (by decide) mt_X12_isGood v_tyM rfl rfl rfl (Nat.le_of_ble_eq_true rfl) (Nat.le_of_ble_eq_true rfl) (Nat.le_of_ble_eq_true rfl) (fun d' => c_X12_isGood L xs m d' S R) ?_
    rintro _ _ _ ⟨_, rfl, rfl, rfl, rfl⟩
    show u_P L xs m d m_X12_factor 4 [(0, .ref 100)] [.int (f_X12_isGood S)] S R _
    refine u_if_eq rfl (fun h1 => ?_) (fun h1 => ?_)
    · have hD := hD.1 h1
      show u_P L xs m d m_X12_factor 23 [(0, .ref 100)] [] S R _
      refine u_st rfl (fun _ => rfl) ?_
      show u_P L xs m d m_X12_factor 24 [(0, .ref 100)] [.ref 100] S R _
      refine u_cv (rest := []) rfl (by decide) mt_X12_isGood v_tyM rfl rfl rfl (Nat.le_of_ble_eq_true rfl) (Nat.le_of_ble_eq_true rfl) (Nat.le_of_ble_eq_true rfl) (fun d' => c_X12_isGood L xs m d' S R) ?_
      rintro _ _ _ ⟨_, rfl, rfl, rfl, rfl⟩
      show u_P L xs m d m_X12_factor 27 [(0, .ref 100)] [.int (f_X12_isGood S)] S R _
      refine u_if_ne rfl (fun h2 => absurd h1 h2) (fun _ => ?_)
      show u_P L xs m d m_X12_factor 30 [(0, .ref 100)] [] S R _
      exact u_ret rfl rfl ⟨rfl, rfl, hD⟩
    · have hD := hD.2 h1
      show u_P L xs m d m_X12_factor 7 [(0, .ref 100)] [] S R _
      refine u_st rfl (fun _ => rfl) ?_
      show u_P L xs m d m_X12_factor 8 [(0, .ref 100)] [.ref 100] S R _
      refine u_cv (rest := []) rfl (by decide) mt_X12_here v_tyM rfl rfl rfl (Nat.le_of_ble_eq_true rfl) (Nat.le_of_ble_eq_true rfl) (Nat.le_of_ble_eq_true rfl) (fun d' => c_X12_here L xs m d' S R) ?_
      rintro _ _ _ ⟨_, rfl, rfl, rfl, rfl⟩
      refine u_st rfl (fun _ => rfl) ?_
      show u_P L xs m d m_X12_factor 13 [(0, .ref 100)] [.int (Int32.ofInt 91), .int (f_X12_here S)] S R _
      refine u_ic_ne rfl (fun h3 => ?_) (fun h3 => ?_)
      · have hD := hD.1 h3
        show u_P L xs m d m_X12_factor 23 [(0, .ref 100)] [] S R _
        refine u_st rfl (fun _ => rfl) ?_
        show u_P L xs m d m_X12_factor 24 [(0, .ref 100)] [.ref 100] S R _
        refine u_cv (rest := []) rfl (by decide) mt_X12_isGood v_tyM rfl rfl rfl (Nat.le_of_ble_eq_true rfl) (Nat.le_of_ble_eq_true rfl) (Nat.le_of_ble_eq_true rfl) (fun d' => c_X12_isGood L xs m d' S R) ?_
        rintro _ _ _ ⟨_, rfl, rfl, rfl, rfl⟩
        show u_P L xs m d m_X12_factor 27 [(0, .ref 100)] [.int (f_X12_isGood S)] S R _
        refine u_if_ne rfl (fun _ => ?_) (fun h4 => absurd h1 h4)
        show u_P L xs m d m_X12_factor 31 [(0, .ref 100)] [] S R _
        refine u_st rfl (fun _ => rfl) ?_
        show u_P L xs m d m_X12_factor 32 [(0, .ref 100)] [.ref 100] S R _
        refine u_cv (rest := []) rfl (by decide) mt_X12_seesDigit v_tyM rfl rfl rfl (Nat.le_of_ble_eq_true rfl) (Nat.le_of_ble_eq_true rfl) (Nat.le_of_ble_eq_true rfl) (fun d' => c_X12_seesDigit L xs m d' S R) ?_
        rintro _ _ _ ⟨_, rfl, rfl, rfl, rfl⟩
        show u_P L xs m d m_X12_factor 35 [(0, .ref 100)] [.int (f_X12_seesDigit S)] S R _
        refine u_if_eq rfl (fun h5 => ?_) (fun h5 => ?_)
        · have hD := hD.1 h5
          show u_P L xs m d m_X12_factor 50 [(0, .ref 100)] [] S R _
          refine u_st rfl (fun _ => rfl) ?_
          show u_P L xs m d m_X12_factor 51 [(0, .ref 100)] [.ref 100] S R _
          refine u_cv (rest := []) rfl (by decide) mt_X12_here v_tyM rfl rfl rfl (Nat.le_of_ble_eq_true rfl) (Nat.le_of_ble_eq_true rfl) (Nat.le_of_ble_eq_true rfl) (fun d' => c_X12_here L xs m d' S R) ?_
          rintro _ _ _ ⟨_, rfl, rfl, rfl, rfl⟩
          show u_P L xs m d m_X12_factor 54 [(0, .ref 100)] [.int (f_X12_here S)] S R _
          refine u_cs (ac := [.int (f_X12_here S)]) (rest := []) rfl (by decide) mt_X12_isValue (fun _ => rfl) (Nat.le_of_ble_eq_true rfl) (Nat.le_of_ble_eq_true rfl) (fun d' => c_X12_isValue L xs m d' (f_X12_here S) S R) ?_
          rintro _ _ _ ⟨_, rfl, rfl, rfl, rfl⟩
          show u_P L xs m d m_X12_factor 57 [(0, .ref 100)] [.int (f_X12_isValue (f_X12_here S))] S R _
          refine u_if_eq rfl (fun h6 => ?_) (fun h6 => ?_)
          · have hD := hD.1 h6
            show u_P L xs m d m_X12_factor 82 [(0, .ref 100)] [] S R _
            refine u_st rfl (fun _ => rfl) ?_
            refine u_st rfl (fun _ => rfl) ?_
            refine u_st rfl (fun _ => rfl) ?_
            show u_P L xs m d m_X12_factor 85 [(0, .ref 100)] [.ref 100, .int (Int32.ofInt 1), .ref 100] S R _
            refine u_getE (v := S 99 3) rfl v_tyM rfl rfl ?_
            show u_P L xs m d m_X12_factor 88 [(0, .ref 100)] [.int (S 99 3), .int (Int32.ofInt 1), .ref 100] S R _
            refine u_cv (rest := []) rfl (by decide) mt_X12_wrongs v_tyM rfl rfl rfl (Nat.le_of_ble_eq_true rfl) (Nat.le_of_ble_eq_true rfl) (Nat.le_of_ble_eq_true rfl) (fun d' => c_X12_wrongs L xs m d' (Int32.ofInt 1) (S 99 3) S R) ?_
            rintro _ _ _ ⟨rfl, rfl, rfl⟩
            show u_P L xs m d m_X12_factor 91 [(0, .ref 100)] [] (g_X12_wrongs (Int32.ofInt 1) (S 99 3) S) R _
            exact u_ret rfl rfl ⟨rfl, rfl, hD⟩
          · have hD := hD.2 h6
            show u_P L xs m d m_X12_factor 60 [(0, .ref 100)] [] S R _
            refine u_st rfl (fun _ => rfl) ?_
            refine u_st rfl (fun _ => rfl) ?_
            refine u_st rfl (fun _ => rfl) ?_
            show u_P L xs m d m_X12_factor 63 [(0, .ref 100)] [.ref 100, .int (Int32.ofInt 1), .ref 100] S R _
            refine u_cv (rest := [.int (Int32.ofInt 1), .ref 100]) rfl (by decide) mt_X12_here v_tyM rfl rfl rfl (Nat.le_of_ble_eq_true rfl) (Nat.le_of_ble_eq_true rfl) (Nat.le_of_ble_eq_true rfl) (fun d' => c_X12_here L xs m d' S R) ?_
            rintro _ _ _ ⟨_, rfl, rfl, rfl, rfl⟩
            show u_P L xs m d m_X12_factor 66 [(0, .ref 100)] [.int (f_X12_here S), .int (Int32.ofInt 1), .ref 100] S R _
            refine u_cv (rest := []) rfl (by decide) mt_X12_emit v_tyM rfl rfl rfl (Nat.le_of_ble_eq_true rfl) (Nat.le_of_ble_eq_true rfl) (Nat.le_of_ble_eq_true rfl) (fun d' => c_X12_emit L xs m d' (Int32.ofInt 1) (f_X12_here S) S R) ?_
            rintro _ _ _ ⟨rfl, rfl, rfl⟩
            refine u_st rfl (fun _ => rfl) ?_
            refine u_st rfl (fun _ => rfl) ?_
            show u_P L xs m d m_X12_factor 71 [(0, .ref 100)] [.ref 100, .ref 100] (g_X12_emit (Int32.ofInt 1) (f_X12_here S) S) R _
            refine u_getE (v := (g_X12_emit (Int32.ofInt 1) (f_X12_here S) S) 99 3) rfl v_tyM rfl rfl ?_
            refine u_st rfl (fun _ => rfl) ?_
            refine u_st rfl (fun _ => rfl) ?_
            show u_P L xs m d m_X12_factor 76 [(0, .ref 100)] [.int (((g_X12_emit (Int32.ofInt 1) (f_X12_here S) S) 99 3) + (Int32.ofInt 1)), .ref 100] (g_X12_emit (Int32.ofInt 1) (f_X12_here S) S) R _
            refine u_put rfl v_tyM rfl ?_
            refine u_st rfl (fun _ => rfl) ?_
            show u_P L xs m d m_X12_factor 91 [(0, .ref 100)] [] (z_s (g_X12_emit (Int32.ofInt 1) (f_X12_here S) S) 99 3 (((g_X12_emit (Int32.ofInt 1) (f_X12_here S) S) 99 3) + (Int32.ofInt 1))) R _
            exact u_ret rfl rfl ⟨rfl, rfl, hD⟩
        · have hD := hD.2 h5
          show u_P L xs m d m_X12_factor 38 [(0, .ref 100)] [] S R _
          refine u_st rfl (fun _ => rfl) ?_
          refine u_st rfl (fun _ => rfl) ?_
          refine u_st rfl (fun _ => rfl) ?_
          show u_P L xs m d m_X12_factor 41 [(0, .ref 100)] [.ref 100, .int (Int32.ofInt 0), .ref 100] S R _
          refine u_cv (rest := [.int (Int32.ofInt 0), .ref 100]) rfl (by decide) mt_X12_reads v_tyM rfl rfl rfl (Nat.le_of_ble_eq_true rfl) (Nat.le_of_ble_eq_true rfl) (Nat.le_of_ble_eq_true rfl) (fun d' => c_X12_reads L xs m d' S R) ?_
          rintro _ _ _ ⟨_, rfl, rfl, rfl, rfl⟩
          show u_P L xs m d m_X12_factor 44 [(0, .ref 100)] [.int (f_X12_reads S), .int (Int32.ofInt 0), .ref 100] (g_X12_reads S) R _
          refine u_cv (rest := []) rfl (by decide) mt_X12_emit v_tyM rfl rfl rfl (Nat.le_of_ble_eq_true rfl) (Nat.le_of_ble_eq_true rfl) (Nat.le_of_ble_eq_true rfl) (fun d' => c_X12_emit L xs m d' (Int32.ofInt 0) (f_X12_reads S) (g_X12_reads S) R) ?_
          rintro _ _ _ ⟨rfl, rfl, rfl⟩
          refine u_st rfl (fun _ => rfl) ?_
          show u_P L xs m d m_X12_factor 91 [(0, .ref 100)] [] (g_X12_emit (Int32.ofInt 0) (f_X12_reads S) (g_X12_reads S)) R _
          exact u_ret rfl rfl ⟨rfl, rfl, hD⟩
      · have hD := hD.2 h3
        show u_P L xs m d m_X12_factor 16 [(0, .ref 100)] [] S R _
        refine u_st rfl (fun _ => rfl) ?_
        show u_P L xs m d m_X12_factor 17 [(0, .ref 100)] [.ref 100] S R _
        refine u_cv (rest := []) rfl (by decide) mt_X12_opens v_tyM rfl rfl rfl (Nat.le_of_ble_eq_true rfl) (Nat.le_of_ble_eq_true rfl) (Nat.le_of_ble_eq_true rfl) (fun d' => c_X12_opens L xs m d' S R) ?_
        rintro _ _ _ ⟨rfl, rfl, rfl⟩
        refine u_st rfl (fun _ => rfl) ?_
        exact (ih m hm) d (g_X12_opens S) hD
set_option maxRecDepth 4000 in
theorem w_X12_factor (L : Nat) (xs : Nat → Int32) {R : v_Rf}  (H0 : v_Sf → Prop) (K : v_Sf → Prop) (k0 : ∀  (S : v_Sf), H0  S → D_X12_factor_0 H0 K S) (n d : Nat) (S : v_Sf) (hD : D_X12_factor H0 K S) : u_P L xs n d m_X12_factor 0 (lv_args 0 [.ref 100]) [] S R (z_V R K) := by
  unfold D_X12_factor at hD
  show u_P L xs n d m_X12_factor 0 [(0, .ref 100)] [] S R _
  exact (hd_X12_factor L xs H0 K k0 n) d S hD
noncomputable def s_X12_factor_0 (S : v_Sf) : (v_Sf) ⊕ (v_Sf) := (if (f_X12_isGood S) = 0 then (Sum.inr (S)) else (if ¬ (f_X12_here S) = (Int32.ofInt 91) then (if (f_X12_seesDigit S) = 0 then (if (f_X12_isValue (f_X12_here S)) = 0 then (Sum.inr (g_X12_wrongs (Int32.ofInt 1) (S 99 3) S)) else (Sum.inr (z_s (g_X12_emit (Int32.ofInt 1) (f_X12_here S) S) 99 3 (((g_X12_emit (Int32.ofInt 1) (f_X12_here S) S) 99 3) + (Int32.ofInt 1))))) else (Sum.inr (g_X12_emit (Int32.ofInt 0) (f_X12_reads S) (g_X12_reads S)))) else (Sum.inl (g_X12_opens S))))
noncomputable def F_X12_factor  (S : v_Sf) : v_Sf := z_lim (fun p => s_X12_factor_0 p) S S
noncomputable def g_X12_factor  (S : v_Sf) : v_Sf := F_X12_factor  S
theorem c_X12_factor (L : Nat) (xs : Nat → Int32) (n d : Nat)  (S : v_Sf) (R : v_Rf) : u_P L xs n d m_X12_factor 0 (lv_args 0 [.ref 100]) [] S R (z_V R (fun S1 => g_X12_factor  S = S1)) := by
  refine w_X12_factor L xs  (fun  T => (∀ N out, z_itr (fun p => s_X12_factor_0 p) N T = some out → F_X12_factor  S = out)) (fun S1 => g_X12_factor  S = S1) ?_ n d S ?_
  · rintro  S1 e
    unfold D_X12_factor_0
    refine ⟨fun q1 => ?_, fun q1 => ?_⟩
    · have e := (e 1 _ (z_itr_r (by show s_X12_factor_0 S1 = _; rw [s_X12_factor_0, if_pos q1]))).symm
      exact e.symm
    · refine ⟨fun q2 => ?_, fun q2 => ?_⟩
      · refine ⟨fun q3 => ?_, fun q3 => ?_⟩
        · refine ⟨fun q4 => ?_, fun q4 => ?_⟩
          · have e := (e 1 _ (z_itr_r (by show s_X12_factor_0 S1 = _; rw [s_X12_factor_0, if_neg q1, if_pos q2, if_pos q3, if_pos q4]))).symm
            exact e.symm
          · have e := (e 1 _ (z_itr_r (by show s_X12_factor_0 S1 = _; rw [s_X12_factor_0, if_neg q1, if_pos q2, if_pos q3, if_neg q4]))).symm
            exact e.symm
        · have e := (e 1 _ (z_itr_r (by show s_X12_factor_0 S1 = _; rw [s_X12_factor_0, if_neg q1, if_pos q2, if_neg q3]))).symm
          exact e.symm
      · exact fun N out h => e (N + 1) out ((z_itr_l (by show s_X12_factor_0 S1 = _; rw [s_X12_factor_0, if_neg q1, if_neg q2])).trans h)
  · unfold D_X12_factor
    have e : z_lim (fun p => s_X12_factor_0 p) S S = F_X12_factor  S := by rw [F_X12_factor]
    exact fun N out h => e.symm.trans (z_lim_eq h)
noncomputable def f_X12_stays  (S : v_Sf) : Int32 := (if ¬ (f_X12_isTimes (f_X12_here S)) = 0 then Int32.ofInt 1 else (if (f_X12_isPlus (f_X12_here S)) = 0 then (if (f_X12_here S) = (Int32.ofInt 93) then (if (f_X12_top (g_X12_sums (Int32.ofInt 1) S)) = (Int32.ofInt 91) then Int32.ofInt 1 else Int32.ofInt 0) else Int32.ofInt 0) else Int32.ofInt 1))
noncomputable def g_X12_stays  (S : v_Sf) : v_Sf := (if ¬ (f_X12_isTimes (f_X12_here S)) = 0 then g_X12_puts (f_X12_here S) (g_X12_sums (f_X12_isPlus (f_X12_here S)) S) else (if (f_X12_isPlus (f_X12_here S)) = 0 then (if (f_X12_here S) = (Int32.ofInt 93) then (if (f_X12_top (g_X12_sums (Int32.ofInt 1) S)) = (Int32.ofInt 91) then z_s (z_s (z_s (z_s (g_X12_sums (Int32.ofInt 1) S) 99 9 (((g_X12_sums (Int32.ofInt 1) S) 99 9) - (Int32.ofInt 1))) 99 8 (((g_X12_sums (Int32.ofInt 1) S) 99 8) - (Int32.ofInt 1))) 99 3 (((g_X12_sums (Int32.ofInt 1) S) 99 3) + (Int32.ofInt 1))) 99 25 (Int32.ofInt 1) else g_X12_wrongs (Int32.ofInt 1) ((g_X12_sums (Int32.ofInt 1) S) 99 3) (g_X12_sums (Int32.ofInt 1) S)) else g_X12_sums (Int32.ofInt 1) S) else g_X12_puts (f_X12_here S) (g_X12_sums (f_X12_isPlus (f_X12_here S)) S)))
set_option maxRecDepth 4000 in
theorem c_X12_stays (L : Nat) (xs : Nat → Int32) (n d : Nat)  (S : v_Sf) (R : v_Rf) : u_P L xs n d m_X12_stays 0 (lv_args 0 [.ref 100]) [] S R (z_Q R (fun v S1 => f_X12_stays  S = v ∧ g_X12_stays  S = S1)) := by
  show u_P L xs n d m_X12_stays 0 [(0, .ref 100)] [] S R _
  refine u_st rfl (fun _ => rfl) ?_
  show u_P L xs n d m_X12_stays 1 [(0, .ref 100)] [.ref 100] S R _
  refine u_cv (rest := []) rfl (by decide) mt_X12_here v_tyM rfl rfl rfl (Nat.le_of_ble_eq_true rfl) (Nat.le_of_ble_eq_true rfl) (Nat.le_of_ble_eq_true rfl) (fun d' => c_X12_here L xs n d' S R) ?_
  rintro _ _ _ ⟨_, rfl, rfl, rfl, rfl⟩
  refine u_st rfl (fun _ => rfl) ?_
  refine u_st rfl (fun _ => rfl) ?_
  show u_P L xs n d m_X12_stays 6 [(1, .int (f_X12_here S)), (0, .ref 100)] [.int (f_X12_here S)] S R _
  refine u_cs (ac := [.int (f_X12_here S)]) (rest := []) rfl (by decide) mt_X12_isTimes (fun _ => rfl) (Nat.le_of_ble_eq_true rfl) (Nat.le_of_ble_eq_true rfl) (fun d' => c_X12_isTimes L xs n d' (f_X12_here S) S R) ?_
  rintro _ _ _ ⟨_, rfl, rfl, rfl, rfl⟩
  show u_P L xs n d m_X12_stays 9 [(1, .int (f_X12_here S)), (0, .ref 100)] [.int (f_X12_isTimes (f_X12_here S))] S R _
  refine u_if_ne rfl (fun h1 => ?_) (fun h1 => ?_)
  · show u_P L xs n d m_X12_stays 19 [(1, .int (f_X12_here S)), (0, .ref 100)] [] S R _
    refine u_st rfl (fun _ => rfl) ?_
    refine u_st rfl (fun _ => rfl) ?_
    show u_P L xs n d m_X12_stays 21 [(1, .int (f_X12_here S)), (0, .ref 100)] [.int (f_X12_here S), .ref 100] S R _
    refine u_cs (ac := [.int (f_X12_here S)]) (rest := [.ref 100]) rfl (by decide) mt_X12_isPlus (fun _ => rfl) (Nat.le_of_ble_eq_true rfl) (Nat.le_of_ble_eq_true rfl) (fun d' => c_X12_isPlus L xs n d' (f_X12_here S) S R) ?_
    rintro _ _ _ ⟨_, rfl, rfl, rfl, rfl⟩
    show u_P L xs n d m_X12_stays 24 [(1, .int (f_X12_here S)), (0, .ref 100)] [.int (f_X12_isPlus (f_X12_here S)), .ref 100] S R _
    refine u_cv (rest := []) rfl (by decide) mt_X12_sums v_tyM rfl rfl rfl (Nat.le_of_ble_eq_true rfl) (Nat.le_of_ble_eq_true rfl) (Nat.le_of_ble_eq_true rfl) (fun d' => c_X12_sums L xs n d' (f_X12_isPlus (f_X12_here S)) S R) ?_
    rintro _ _ _ ⟨rfl, rfl, rfl⟩
    refine u_st rfl (fun _ => rfl) ?_
    refine u_st rfl (fun _ => rfl) ?_
    show u_P L xs n d m_X12_stays 29 [(1, .int (f_X12_here S)), (0, .ref 100)] [.int (f_X12_here S), .ref 100] (g_X12_sums (f_X12_isPlus (f_X12_here S)) S) R _
    refine u_cv (rest := []) rfl (by decide) mt_X12_puts v_tyM rfl rfl rfl (Nat.le_of_ble_eq_true rfl) (Nat.le_of_ble_eq_true rfl) (Nat.le_of_ble_eq_true rfl) (fun d' => c_X12_puts L xs n d' (f_X12_here S) (g_X12_sums (f_X12_isPlus (f_X12_here S)) S) R) ?_
    rintro _ _ _ ⟨rfl, rfl, rfl⟩
    refine u_st rfl (fun _ => rfl) ?_
    show u_P L xs n d m_X12_stays 33 [(1, .int (f_X12_here S)), (0, .ref 100)] [.int (Int32.ofInt 1)] (g_X12_puts (f_X12_here S) (g_X12_sums (f_X12_isPlus (f_X12_here S)) S)) R _
    exact u_retb rfl rfl ⟨_, rfl, rfl, by rw [f_X12_stays, if_pos h1], by rw [g_X12_stays, if_pos h1]⟩
  · show u_P L xs n d m_X12_stays 12 [(1, .int (f_X12_here S)), (0, .ref 100)] [] S R _
    refine u_st rfl (fun _ => rfl) ?_
    show u_P L xs n d m_X12_stays 13 [(1, .int (f_X12_here S)), (0, .ref 100)] [.int (f_X12_here S)] S R _
    refine u_cs (ac := [.int (f_X12_here S)]) (rest := []) rfl (by decide) mt_X12_isPlus (fun _ => rfl) (Nat.le_of_ble_eq_true rfl) (Nat.le_of_ble_eq_true rfl) (fun d' => c_X12_isPlus L xs n d' (f_X12_here S) S R) ?_
    rintro _ _ _ ⟨_, rfl, rfl, rfl, rfl⟩
    show u_P L xs n d m_X12_stays 16 [(1, .int (f_X12_here S)), (0, .ref 100)] [.int (f_X12_isPlus (f_X12_here S))] S R _
    refine u_if_eq rfl (fun h2 => ?_) (fun h2 => ?_)
    · show u_P L xs n d m_X12_stays 34 [(1, .int (f_X12_here S)), (0, .ref 100)] [] S R _
      refine u_st rfl (fun _ => rfl) ?_
      refine u_st rfl (fun _ => rfl) ?_
      show u_P L xs n d m_X12_stays 36 [(1, .int (f_X12_here S)), (0, .ref 100)] [.int (Int32.ofInt 1), .ref 100] S R _
      refine u_cv (rest := []) rfl (by decide) mt_X12_sums v_tyM rfl rfl rfl (Nat.le_of_ble_eq_true rfl) (Nat.le_of_ble_eq_true rfl) (Nat.le_of_ble_eq_true rfl) (fun d' => c_X12_sums L xs n d' (Int32.ofInt 1) S R) ?_
      rintro _ _ _ ⟨rfl, rfl, rfl⟩
      refine u_st rfl (fun _ => rfl) ?_
      refine u_st rfl (fun _ => rfl) ?_
      show u_P L xs n d m_X12_stays 42 [(1, .int (f_X12_here S)), (0, .ref 100)] [.int (Int32.ofInt 93), .int (f_X12_here S)] (g_X12_sums (Int32.ofInt 1) S) R _
      refine u_ic_eq rfl (fun h3 => ?_) (fun h3 => ?_)
      · show u_P L xs n d m_X12_stays 47 [(1, .int (f_X12_here S)), (0, .ref 100)] [] (g_X12_sums (Int32.ofInt 1) S) R _
        refine u_st rfl (fun _ => rfl) ?_
        show u_P L xs n d m_X12_stays 48 [(1, .int (f_X12_here S)), (0, .ref 100)] [.ref 100] (g_X12_sums (Int32.ofInt 1) S) R _
        refine u_cv (rest := []) rfl (by decide) mt_X12_top v_tyM rfl rfl rfl (Nat.le_of_ble_eq_true rfl) (Nat.le_of_ble_eq_true rfl) (Nat.le_of_ble_eq_true rfl) (fun d' => c_X12_top L xs n d' (g_X12_sums (Int32.ofInt 1) S) R) ?_
        rintro _ _ _ ⟨_, rfl, rfl, rfl, rfl⟩
        refine u_st rfl (fun _ => rfl) ?_
        show u_P L xs n d m_X12_stays 53 [(1, .int (f_X12_here S)), (0, .ref 100)] [.int (Int32.ofInt 91), .int (f_X12_top (g_X12_sums (Int32.ofInt 1) S))] (g_X12_sums (Int32.ofInt 1) S) R _
        refine u_ic_eq rfl (fun h4 => ?_) (fun h4 => ?_)
        · show u_P L xs n d m_X12_stays 67 [(1, .int (f_X12_here S)), (0, .ref 100)] [] (g_X12_sums (Int32.ofInt 1) S) R _
          refine u_st rfl (fun _ => rfl) ?_
          refine u_st rfl (fun _ => rfl) ?_
          show u_P L xs n d m_X12_stays 69 [(1, .int (f_X12_here S)), (0, .ref 100)] [.ref 100, .ref 100] (g_X12_sums (Int32.ofInt 1) S) R _
          refine u_getE (v := (g_X12_sums (Int32.ofInt 1) S) 99 9) rfl v_tyM rfl rfl ?_
          refine u_st rfl (fun _ => rfl) ?_
          refine u_st rfl (fun _ => rfl) ?_
          show u_P L xs n d m_X12_stays 74 [(1, .int (f_X12_here S)), (0, .ref 100)] [.int (((g_X12_sums (Int32.ofInt 1) S) 99 9) - (Int32.ofInt 1)), .ref 100] (g_X12_sums (Int32.ofInt 1) S) R _
          refine u_put rfl v_tyM rfl ?_
          refine u_st rfl (fun _ => rfl) ?_
          refine u_st rfl (fun _ => rfl) ?_
          show u_P L xs n d m_X12_stays 79 [(1, .int (f_X12_here S)), (0, .ref 100)] [.ref 100, .ref 100] (z_s (g_X12_sums (Int32.ofInt 1) S) 99 9 (((g_X12_sums (Int32.ofInt 1) S) 99 9) - (Int32.ofInt 1))) R _
          refine u_getE (v := (g_X12_sums (Int32.ofInt 1) S) 99 8) rfl v_tyM rfl (z_sn (fun h => absurd h.2 (by decide))) ?_
          refine u_st rfl (fun _ => rfl) ?_
          refine u_st rfl (fun _ => rfl) ?_
          show u_P L xs n d m_X12_stays 84 [(1, .int (f_X12_here S)), (0, .ref 100)] [.int (((g_X12_sums (Int32.ofInt 1) S) 99 8) - (Int32.ofInt 1)), .ref 100] (z_s (g_X12_sums (Int32.ofInt 1) S) 99 9 (((g_X12_sums (Int32.ofInt 1) S) 99 9) - (Int32.ofInt 1))) R _
          refine u_put rfl v_tyM rfl ?_
          refine u_st rfl (fun _ => rfl) ?_
          refine u_st rfl (fun _ => rfl) ?_
          show u_P L xs n d m_X12_stays 89 [(1, .int (f_X12_here S)), (0, .ref 100)] [.ref 100, .ref 100] (z_s (z_s (g_X12_sums (Int32.ofInt 1) S) 99 9 (((g_X12_sums (Int32.ofInt 1) S) 99 9) - (Int32.ofInt 1))) 99 8 (((g_X12_sums (Int32.ofInt 1) S) 99 8) - (Int32.ofInt 1))) R _
          refine u_getE (v := (g_X12_sums (Int32.ofInt 1) S) 99 3) rfl v_tyM rfl ((z_sn (fun h => absurd h.2 (by decide))).trans (z_sn (fun h => absurd h.2 (by decide)))) ?_
          refine u_st rfl (fun _ => rfl) ?_
          refine u_st rfl (fun _ => rfl) ?_
          show u_P L xs n d m_X12_stays 94 [(1, .int (f_X12_here S)), (0, .ref 100)] [.int (((g_X12_sums (Int32.ofInt 1) S) 99 3) + (Int32.ofInt 1)), .ref 100] (z_s (z_s (g_X12_sums (Int32.ofInt 1) S) 99 9 (((g_X12_sums (Int32.ofInt 1) S) 99 9) - (Int32.ofInt 1))) 99 8 (((g_X12_sums (Int32.ofInt 1) S) 99 8) - (Int32.ofInt 1))) R _
          refine u_put rfl v_tyM rfl ?_
          refine u_st rfl (fun _ => rfl) ?_
          refine u_st rfl (fun _ => rfl) ?_
          show u_P L xs n d m_X12_stays 99 [(1, .int (f_X12_here S)), (0, .ref 100)] [.int (Int32.ofInt 1), .ref 100] (z_s (z_s (z_s (g_X12_sums (Int32.ofInt 1) S) 99 9 (((g_X12_sums (Int32.ofInt 1) S) 99 9) - (Int32.ofInt 1))) 99 8 (((g_X12_sums (Int32.ofInt 1) S) 99 8) - (Int32.ofInt 1))) 99 3 (((g_X12_sums (Int32.ofInt 1) S) 99 3) + (Int32.ofInt 1))) R _
          refine u_put rfl v_tyM rfl ?_
          refine u_st rfl (fun _ => rfl) ?_
          show u_P L xs n d m_X12_stays 103 [(1, .int (f_X12_here S)), (0, .ref 100)] [.int (Int32.ofInt 1)] (z_s (z_s (z_s (z_s (g_X12_sums (Int32.ofInt 1) S) 99 9 (((g_X12_sums (Int32.ofInt 1) S) 99 9) - (Int32.ofInt 1))) 99 8 (((g_X12_sums (Int32.ofInt 1) S) 99 8) - (Int32.ofInt 1))) 99 3 (((g_X12_sums (Int32.ofInt 1) S) 99 3) + (Int32.ofInt 1))) 99 25 (Int32.ofInt 1)) R _
          exact u_retb rfl rfl ⟨_, rfl, rfl, by rw [f_X12_stays, if_neg h1, if_pos h2, if_pos h3, if_pos h4], by rw [g_X12_stays, if_neg h1, if_pos h2, if_pos h3, if_pos h4]⟩
        · show u_P L xs n d m_X12_stays 56 [(1, .int (f_X12_here S)), (0, .ref 100)] [] (g_X12_sums (Int32.ofInt 1) S) R _
          refine u_st rfl (fun _ => rfl) ?_
          refine u_st rfl (fun _ => rfl) ?_
          refine u_st rfl (fun _ => rfl) ?_
          show u_P L xs n d m_X12_stays 59 [(1, .int (f_X12_here S)), (0, .ref 100)] [.ref 100, .int (Int32.ofInt 1), .ref 100] (g_X12_sums (Int32.ofInt 1) S) R _
          refine u_getE (v := (g_X12_sums (Int32.ofInt 1) S) 99 3) rfl v_tyM rfl rfl ?_
          show u_P L xs n d m_X12_stays 62 [(1, .int (f_X12_here S)), (0, .ref 100)] [.int ((g_X12_sums (Int32.ofInt 1) S) 99 3), .int (Int32.ofInt 1), .ref 100] (g_X12_sums (Int32.ofInt 1) S) R _
          refine u_cv (rest := []) rfl (by decide) mt_X12_wrongs v_tyM rfl rfl rfl (Nat.le_of_ble_eq_true rfl) (Nat.le_of_ble_eq_true rfl) (Nat.le_of_ble_eq_true rfl) (fun d' => c_X12_wrongs L xs n d' (Int32.ofInt 1) ((g_X12_sums (Int32.ofInt 1) S) 99 3) (g_X12_sums (Int32.ofInt 1) S) R) ?_
          rintro _ _ _ ⟨rfl, rfl, rfl⟩
          refine u_st rfl (fun _ => rfl) ?_
          show u_P L xs n d m_X12_stays 66 [(1, .int (f_X12_here S)), (0, .ref 100)] [.int (Int32.ofInt 0)] (g_X12_wrongs (Int32.ofInt 1) ((g_X12_sums (Int32.ofInt 1) S) 99 3) (g_X12_sums (Int32.ofInt 1) S)) R _
          exact u_retb rfl rfl ⟨_, rfl, rfl, by rw [f_X12_stays, if_neg h1, if_pos h2, if_pos h3, if_neg h4], by rw [g_X12_stays, if_neg h1, if_pos h2, if_pos h3, if_neg h4]⟩
      · show u_P L xs n d m_X12_stays 45 [(1, .int (f_X12_here S)), (0, .ref 100)] [] (g_X12_sums (Int32.ofInt 1) S) R _
        refine u_st rfl (fun _ => rfl) ?_
        show u_P L xs n d m_X12_stays 46 [(1, .int (f_X12_here S)), (0, .ref 100)] [.int (Int32.ofInt 0)] (g_X12_sums (Int32.ofInt 1) S) R _
        exact u_retb rfl rfl ⟨_, rfl, rfl, by rw [f_X12_stays, if_neg h1, if_pos h2, if_neg h3], by rw [g_X12_stays, if_neg h1, if_pos h2, if_neg h3]⟩
    · show u_P L xs n d m_X12_stays 19 [(1, .int (f_X12_here S)), (0, .ref 100)] [] S R _
      refine u_st rfl (fun _ => rfl) ?_
      refine u_st rfl (fun _ => rfl) ?_
      show u_P L xs n d m_X12_stays 21 [(1, .int (f_X12_here S)), (0, .ref 100)] [.int (f_X12_here S), .ref 100] S R _
      refine u_cs (ac := [.int (f_X12_here S)]) (rest := [.ref 100]) rfl (by decide) mt_X12_isPlus (fun _ => rfl) (Nat.le_of_ble_eq_true rfl) (Nat.le_of_ble_eq_true rfl) (fun d' => c_X12_isPlus L xs n d' (f_X12_here S) S R) ?_
      rintro _ _ _ ⟨_, rfl, rfl, rfl, rfl⟩
      show u_P L xs n d m_X12_stays 24 [(1, .int (f_X12_here S)), (0, .ref 100)] [.int (f_X12_isPlus (f_X12_here S)), .ref 100] S R _
      refine u_cv (rest := []) rfl (by decide) mt_X12_sums v_tyM rfl rfl rfl (Nat.le_of_ble_eq_true rfl) (Nat.le_of_ble_eq_true rfl) (Nat.le_of_ble_eq_true rfl) (fun d' => c_X12_sums L xs n d' (f_X12_isPlus (f_X12_here S)) S R) ?_
      rintro _ _ _ ⟨rfl, rfl, rfl⟩
      refine u_st rfl (fun _ => rfl) ?_
      refine u_st rfl (fun _ => rfl) ?_
      show u_P L xs n d m_X12_stays 29 [(1, .int (f_X12_here S)), (0, .ref 100)] [.int (f_X12_here S), .ref 100] (g_X12_sums (f_X12_isPlus (f_X12_here S)) S) R _
      refine u_cv (rest := []) rfl (by decide) mt_X12_puts v_tyM rfl rfl rfl (Nat.le_of_ble_eq_true rfl) (Nat.le_of_ble_eq_true rfl) (Nat.le_of_ble_eq_true rfl) (fun d' => c_X12_puts L xs n d' (f_X12_here S) (g_X12_sums (f_X12_isPlus (f_X12_here S)) S) R) ?_
      rintro _ _ _ ⟨rfl, rfl, rfl⟩
      refine u_st rfl (fun _ => rfl) ?_
      show u_P L xs n d m_X12_stays 33 [(1, .int (f_X12_here S)), (0, .ref 100)] [.int (Int32.ofInt 1)] (g_X12_puts (f_X12_here S) (g_X12_sums (f_X12_isPlus (f_X12_here S)) S)) R _
      exact u_retb rfl rfl ⟨_, rfl, rfl, by rw [f_X12_stays, if_neg h1, if_neg h2], by rw [g_X12_stays, if_neg h1, if_neg h2]⟩
noncomputable def D_X12_value_7  (H7 : Int32 → v_Sf → Prop) (K : v_Sf → Prop) (x1 : Int32) (S : v_Sf) : Prop := ((x1 = 0 → (((f_X12_isGood S) = 0 → K S) ∧ (¬ ((f_X12_isGood S) = 0) → (((¬ (f_X12_top S) = (Int32.ofInt 91)) → K S) ∧ (¬ (¬ (f_X12_top S) = (Int32.ofInt 91)) → K (g_X12_wrongs (Int32.ofInt 1) (S 99 3) S)))))) ∧ (¬ (x1 = 0) → (((f_X12_isGood S) = 0 → K S) ∧ (¬ ((f_X12_isGood S) = 0) → (((¬ (S 99 25) = 0) → (((f_X12_isGood (z_s S 99 25 (Int32.ofInt 0))) = 0 → H7 (Int32.ofInt 0) (z_s S 99 25 (Int32.ofInt 0))) ∧ (¬ ((f_X12_isGood (z_s S 99 25 (Int32.ofInt 0))) = 0) → (((f_X12_stays (z_s S 99 25 (Int32.ofInt 0))) = 0 → H7 (Int32.ofInt 0) (g_X12_stays (z_s S 99 25 (Int32.ofInt 0)))) ∧ (¬ ((f_X12_stays (z_s S 99 25 (Int32.ofInt 0))) = 0) → H7 (Int32.ofInt 1) (g_X12_stays (z_s S 99 25 (Int32.ofInt 0)))))))) ∧ (¬ (¬ (S 99 25) = 0) → (((f_X12_isGood (z_s (g_X12_factor S) 99 25 (Int32.ofInt 0))) = 0 → H7 (Int32.ofInt 0) (z_s (g_X12_factor S) 99 25 (Int32.ofInt 0))) ∧ (¬ ((f_X12_isGood (z_s (g_X12_factor S) 99 25 (Int32.ofInt 0))) = 0) → (((f_X12_stays (z_s (g_X12_factor S) 99 25 (Int32.ofInt 0))) = 0 → H7 (Int32.ofInt 0) (g_X12_stays (z_s (g_X12_factor S) 99 25 (Int32.ofInt 0)))) ∧ (¬ ((f_X12_stays (z_s (g_X12_factor S) 99 25 (Int32.ofInt 0))) = 0) → H7 (Int32.ofInt 1) (g_X12_stays (z_s (g_X12_factor S) 99 25 (Int32.ofInt 0)))))))))))))
noncomputable def D_X12_value  (H7 : Int32 → v_Sf → Prop) (K : v_Sf → Prop) (S : v_Sf) : Prop := H7 (Int32.ofInt 1) (z_s S 99 25 (Int32.ofInt 0))
set_option maxRecDepth 4000 in
theorem hd_X12_value (L : Nat) (xs : Nat → Int32) {R : v_Rf}  (H7 : Int32 → v_Sf → Prop) (K : v_Sf → Prop) (k7 : ∀ (x1 : Int32) (S : v_Sf), H7 x1 S → D_X12_value_7 H7 K x1 S) : ∀ n, (∀ (d : Nat) (x1 : Int32) (S : v_Sf), H7 x1 S → u_P L xs n d m_X12_value 7 [(0, .ref 100), (1, .int x1)] [] S R (z_V R K)) := by
  intro n
  induction n using Nat.strongRecOn with
  | ind n ih =>
    intro d x1 S hD
    have hD := k7 x1 S hD
    unfold D_X12_value_7 at hD
    show u_P L xs n d m_X12_value 7 [(0, .ref 100), (1, .int x1)] [] S R _
    refine u_st1 rfl (fun _ => rfl) (fun m hm => ?_)
    show u_P L xs m d m_X12_value 8 [(0, .ref 100), (1, .int x1)] [.int x1] S R _
    refine u_if_eq rfl (fun h1 => ?_) (fun h1 => ?_)
    · have hD := hD.1 h1
      show u_P L xs m d m_X12_value 57 [(0, .ref 100), (1, .int x1)] [] S R _
      refine u_st rfl (fun _ => rfl) ?_
      show u_P L xs m d m_X12_value 58 [(0, .ref 100), (1, .int x1)] [.ref 100] S R _
      refine u_cv (rest := []) rfl (by decide) mt_X12_isGood v_tyM rfl rfl rfl (Nat.le_of_ble_eq_true rfl) (Nat.le_of_ble_eq_true rfl) (Nat.le_of_ble_eq_true rfl) (fun d' => c_X12_isGood L xs m d' S R) ?_
      rintro _ _ _ ⟨_, rfl, rfl, rfl, rfl⟩
      show u_P L xs m d m_X12_value 61 [(0, .ref 100), (1, .int x1)] [.int (f_X12_isGood S)] S R _
      refine u_if_eq rfl (fun h2 => ?_) (fun h2 => ?_)
      · have hD := hD.1 h2
        show u_P L xs m d m_X12_value 82 [(0, .ref 100), (1, .int x1)] [] S R _
        exact u_ret rfl rfl ⟨rfl, rfl, hD⟩
      · have hD := hD.2 h2
        show u_P L xs m d m_X12_value 64 [(0, .ref 100), (1, .int x1)] [] S R _
        refine u_st rfl (fun _ => rfl) ?_
        show u_P L xs m d m_X12_value 65 [(0, .ref 100), (1, .int x1)] [.ref 100] S R _
        refine u_cv (rest := []) rfl (by decide) mt_X12_top v_tyM rfl rfl rfl (Nat.le_of_ble_eq_true rfl) (Nat.le_of_ble_eq_true rfl) (Nat.le_of_ble_eq_true rfl) (fun d' => c_X12_top L xs m d' S R) ?_
        rintro _ _ _ ⟨_, rfl, rfl, rfl, rfl⟩
        refine u_st rfl (fun _ => rfl) ?_
        show u_P L xs m d m_X12_value 70 [(0, .ref 100), (1, .int x1)] [.int (Int32.ofInt 91), .int (f_X12_top S)] S R _
        refine u_ic_ne rfl (fun h3 => ?_) (fun h3 => ?_)
        · have hD := hD.1 h3
          show u_P L xs m d m_X12_value 82 [(0, .ref 100), (1, .int x1)] [] S R _
          exact u_ret rfl rfl ⟨rfl, rfl, hD⟩
        · have hD := hD.2 h3
          show u_P L xs m d m_X12_value 73 [(0, .ref 100), (1, .int x1)] [] S R _
          refine u_st rfl (fun _ => rfl) ?_
          refine u_st rfl (fun _ => rfl) ?_
          refine u_st rfl (fun _ => rfl) ?_
          show u_P L xs m d m_X12_value 76 [(0, .ref 100), (1, .int x1)] [.ref 100, .int (Int32.ofInt 1), .ref 100] S R _
          refine u_getE (v := S 99 3) rfl v_tyM rfl rfl ?_
          show u_P L xs m d m_X12_value 79 [(0, .ref 100), (1, .int x1)] [.int (S 99 3), .int (Int32.ofInt 1), .ref 100] S R _
          refine u_cv (rest := []) rfl (by decide) mt_X12_wrongs v_tyM rfl rfl rfl (Nat.le_of_ble_eq_true rfl) (Nat.le_of_ble_eq_true rfl) (Nat.le_of_ble_eq_true rfl) (fun d' => c_X12_wrongs L xs m d' (Int32.ofInt 1) (S 99 3) S R) ?_
          rintro _ _ _ ⟨rfl, rfl, rfl⟩
          show u_P L xs m d m_X12_value 82 [(0, .ref 100), (1, .int x1)] [] (g_X12_wrongs (Int32.ofInt 1) (S 99 3) S) R _
          exact u_ret rfl rfl ⟨rfl, rfl, hD⟩
    · have hD := hD.2 h1
      show u_P L xs m d m_X12_value 11 [(0, .ref 100), (1, .int x1)] [] S R _
      refine u_st rfl (fun _ => rfl) ?_
      show u_P L xs m d m_X12_value 12 [(0, .ref 100), (1, .int x1)] [.ref 100] S R _
      refine u_cv (rest := []) rfl (by decide) mt_X12_isGood v_tyM rfl rfl rfl (Nat.le_of_ble_eq_true rfl) (Nat.le_of_ble_eq_true rfl) (Nat.le_of_ble_eq_true rfl) (fun d' => c_X12_isGood L xs m d' S R) ?_
      rintro _ _ _ ⟨_, rfl, rfl, rfl, rfl⟩
      show u_P L xs m d m_X12_value 15 [(0, .ref 100), (1, .int x1)] [.int (f_X12_isGood S)] S R _
      refine u_if_eq rfl (fun h4 => ?_) (fun h4 => ?_)
      · have hD := hD.1 h4
        show u_P L xs m d m_X12_value 57 [(0, .ref 100), (1, .int x1)] [] S R _
        refine u_st rfl (fun _ => rfl) ?_
        show u_P L xs m d m_X12_value 58 [(0, .ref 100), (1, .int x1)] [.ref 100] S R _
        refine u_cv (rest := []) rfl (by decide) mt_X12_isGood v_tyM rfl rfl rfl (Nat.le_of_ble_eq_true rfl) (Nat.le_of_ble_eq_true rfl) (Nat.le_of_ble_eq_true rfl) (fun d' => c_X12_isGood L xs m d' S R) ?_
        rintro _ _ _ ⟨_, rfl, rfl, rfl, rfl⟩
        show u_P L xs m d m_X12_value 61 [(0, .ref 100), (1, .int x1)] [.int (f_X12_isGood S)] S R _
        refine u_if_eq rfl (fun _ => ?_) (fun h5 => absurd h4 h5)
        show u_P L xs m d m_X12_value 82 [(0, .ref 100), (1, .int x1)] [] S R _
        exact u_ret rfl rfl ⟨rfl, rfl, hD⟩
      · have hD := hD.2 h4
        show u_P L xs m d m_X12_value 18 [(0, .ref 100), (1, .int x1)] [] S R _
        refine u_st rfl (fun _ => rfl) ?_
        show u_P L xs m d m_X12_value 19 [(0, .ref 100), (1, .int x1)] [.ref 100] S R _
        refine u_getE (v := S 99 25) rfl v_tyM rfl rfl ?_
        show u_P L xs m d m_X12_value 22 [(0, .ref 100), (1, .int x1)] [.int (S 99 25)] S R _
        refine u_if_ne rfl (fun h6 => ?_) (fun h6 => ?_)
        · have hD := hD.1 h6
          show u_P L xs m d m_X12_value 29 [(0, .ref 100), (1, .int x1)] [] S R _
          refine u_st rfl (fun _ => rfl) ?_
          refine u_st rfl (fun _ => rfl) ?_
          show u_P L xs m d m_X12_value 31 [(0, .ref 100), (1, .int x1)] [.int (Int32.ofInt 0), .ref 100] S R _
          refine u_put rfl v_tyM rfl ?_
          refine u_st rfl (fun _ => rfl) ?_
          show u_P L xs m d m_X12_value 35 [(0, .ref 100), (1, .int x1)] [.ref 100] (z_s S 99 25 (Int32.ofInt 0)) R _
          refine u_cv (rest := []) rfl (by decide) mt_X12_isGood v_tyM rfl rfl rfl (Nat.le_of_ble_eq_true rfl) (Nat.le_of_ble_eq_true rfl) (Nat.le_of_ble_eq_true rfl) (fun d' => c_X12_isGood L xs m d' (z_s S 99 25 (Int32.ofInt 0)) R) ?_
          rintro _ _ _ ⟨_, rfl, rfl, rfl, rfl⟩
          show u_P L xs m d m_X12_value 38 [(0, .ref 100), (1, .int x1)] [.int (f_X12_isGood (z_s S 99 25 (Int32.ofInt 0)))] (z_s S 99 25 (Int32.ofInt 0)) R _
          refine u_if_eq rfl (fun h7 => ?_) (fun h7 => ?_)
          · have hD := hD.1 h7
            show u_P L xs m d m_X12_value 52 [(0, .ref 100), (1, .int x1)] [] (z_s S 99 25 (Int32.ofInt 0)) R _
            refine u_st rfl (fun _ => rfl) ?_
            refine u_st rfl (fun _ => rfl) ?_
            refine u_st rfl (fun _ => rfl) ?_
            refine u_lc (b := [(0, .ref 100), (1, .int (Int32.ofInt 0))]) (show ([1, 0] : List Nat).Nodup by decide) (show ([0, 1] : List Nat).Nodup by decide) (fun i => match i with | 0 => rfl | 1 => rfl | _ + 2 => rfl) ?_
            exact (ih m hm) d (Int32.ofInt 0) (z_s S 99 25 (Int32.ofInt 0)) hD
          · have hD := hD.2 h7
            show u_P L xs m d m_X12_value 41 [(0, .ref 100), (1, .int x1)] [] (z_s S 99 25 (Int32.ofInt 0)) R _
            refine u_st rfl (fun _ => rfl) ?_
            show u_P L xs m d m_X12_value 42 [(0, .ref 100), (1, .int x1)] [.ref 100] (z_s S 99 25 (Int32.ofInt 0)) R _
            refine u_cv (rest := []) rfl (by decide) mt_X12_stays v_tyM rfl rfl rfl (Nat.le_of_ble_eq_true rfl) (Nat.le_of_ble_eq_true rfl) (Nat.le_of_ble_eq_true rfl) (fun d' => c_X12_stays L xs m d' (z_s S 99 25 (Int32.ofInt 0)) R) ?_
            rintro _ _ _ ⟨_, rfl, rfl, rfl, rfl⟩
            show u_P L xs m d m_X12_value 45 [(0, .ref 100), (1, .int x1)] [.int (f_X12_stays (z_s S 99 25 (Int32.ofInt 0)))] (g_X12_stays (z_s S 99 25 (Int32.ofInt 0))) R _
            refine u_if_eq rfl (fun h8 => ?_) (fun h8 => ?_)
            · have hD := hD.1 h8
              show u_P L xs m d m_X12_value 52 [(0, .ref 100), (1, .int x1)] [] (g_X12_stays (z_s S 99 25 (Int32.ofInt 0))) R _
              refine u_st rfl (fun _ => rfl) ?_
              refine u_st rfl (fun _ => rfl) ?_
              refine u_st rfl (fun _ => rfl) ?_
              refine u_lc (b := [(0, .ref 100), (1, .int (Int32.ofInt 0))]) (show ([1, 0] : List Nat).Nodup by decide) (show ([0, 1] : List Nat).Nodup by decide) (fun i => match i with | 0 => rfl | 1 => rfl | _ + 2 => rfl) ?_
              exact (ih m hm) d (Int32.ofInt 0) (g_X12_stays (z_s S 99 25 (Int32.ofInt 0))) hD
            · have hD := hD.2 h8
              show u_P L xs m d m_X12_value 48 [(0, .ref 100), (1, .int x1)] [] (g_X12_stays (z_s S 99 25 (Int32.ofInt 0))) R _
              refine u_st rfl (fun _ => rfl) ?_
              refine u_st rfl (fun _ => rfl) ?_
              refine u_st rfl (fun _ => rfl) ?_
              refine u_st rfl (fun _ => rfl) ?_
              refine u_lc (b := [(0, .ref 100), (1, .int (Int32.ofInt 1))]) (show ([1, 0] : List Nat).Nodup by decide) (show ([0, 1] : List Nat).Nodup by decide) (fun i => match i with | 0 => rfl | 1 => rfl | _ + 2 => rfl) ?_
              exact (ih m hm) d (Int32.ofInt 1) (g_X12_stays (z_s S 99 25 (Int32.ofInt 0))) hD
        · have hD := hD.2 h6
          show u_P L xs m d m_X12_value 25 [(0, .ref 100), (1, .int x1)] [] S R _
          refine u_st rfl (fun _ => rfl) ?_
          show u_P L xs m d m_X12_value 26 [(0, .ref 100), (1, .int x1)] [.ref 100] S R _
          refine u_cv (rest := []) rfl (by decide) mt_X12_factor v_tyM rfl rfl rfl (Nat.le_of_ble_eq_true rfl) (Nat.le_of_ble_eq_true rfl) (Nat.le_of_ble_eq_true rfl) (fun d' => c_X12_factor L xs m d' S R) ?_
          rintro _ _ _ ⟨rfl, rfl, rfl⟩
          refine u_st rfl (fun _ => rfl) ?_
          refine u_st rfl (fun _ => rfl) ?_
          show u_P L xs m d m_X12_value 31 [(0, .ref 100), (1, .int x1)] [.int (Int32.ofInt 0), .ref 100] (g_X12_factor S) R _
          refine u_put rfl v_tyM rfl ?_
          refine u_st rfl (fun _ => rfl) ?_
          show u_P L xs m d m_X12_value 35 [(0, .ref 100), (1, .int x1)] [.ref 100] (z_s (g_X12_factor S) 99 25 (Int32.ofInt 0)) R _
          refine u_cv (rest := []) rfl (by decide) mt_X12_isGood v_tyM rfl rfl rfl (Nat.le_of_ble_eq_true rfl) (Nat.le_of_ble_eq_true rfl) (Nat.le_of_ble_eq_true rfl) (fun d' => c_X12_isGood L xs m d' (z_s (g_X12_factor S) 99 25 (Int32.ofInt 0)) R) ?_
          rintro _ _ _ ⟨_, rfl, rfl, rfl, rfl⟩
          show u_P L xs m d m_X12_value 38 [(0, .ref 100), (1, .int x1)] [.int (f_X12_isGood (z_s (g_X12_factor S) 99 25 (Int32.ofInt 0)))] (z_s (g_X12_factor S) 99 25 (Int32.ofInt 0)) R _
          refine u_if_eq rfl (fun h9 => ?_) (fun h9 => ?_)
          · have hD := hD.1 h9
            show u_P L xs m d m_X12_value 52 [(0, .ref 100), (1, .int x1)] [] (z_s (g_X12_factor S) 99 25 (Int32.ofInt 0)) R _
            refine u_st rfl (fun _ => rfl) ?_
            refine u_st rfl (fun _ => rfl) ?_
            refine u_st rfl (fun _ => rfl) ?_
            refine u_lc (b := [(0, .ref 100), (1, .int (Int32.ofInt 0))]) (show ([1, 0] : List Nat).Nodup by decide) (show ([0, 1] : List Nat).Nodup by decide) (fun i => match i with | 0 => rfl | 1 => rfl | _ + 2 => rfl) ?_
            exact (ih m hm) d (Int32.ofInt 0) (z_s (g_X12_factor S) 99 25 (Int32.ofInt 0)) hD
          · have hD := hD.2 h9
            show u_P L xs m d m_X12_value 41 [(0, .ref 100), (1, .int x1)] [] (z_s (g_X12_factor S) 99 25 (Int32.ofInt 0)) R _
            refine u_st rfl (fun _ => rfl) ?_
            show u_P L xs m d m_X12_value 42 [(0, .ref 100), (1, .int x1)] [.ref 100] (z_s (g_X12_factor S) 99 25 (Int32.ofInt 0)) R _
            refine u_cv (rest := []) rfl (by decide) mt_X12_stays v_tyM rfl rfl rfl (Nat.le_of_ble_eq_true rfl) (Nat.le_of_ble_eq_true rfl) (Nat.le_of_ble_eq_true rfl) (fun d' => c_X12_stays L xs m d' (z_s (g_X12_factor S) 99 25 (Int32.ofInt 0)) R) ?_
            rintro _ _ _ ⟨_, rfl, rfl, rfl, rfl⟩
            show u_P L xs m d m_X12_value 45 [(0, .ref 100), (1, .int x1)] [.int (f_X12_stays (z_s (g_X12_factor S) 99 25 (Int32.ofInt 0)))] (g_X12_stays (z_s (g_X12_factor S) 99 25 (Int32.ofInt 0))) R _
            refine u_if_eq rfl (fun h10 => ?_) (fun h10 => ?_)
            · have hD := hD.1 h10
              show u_P L xs m d m_X12_value 52 [(0, .ref 100), (1, .int x1)] [] (g_X12_stays (z_s (g_X12_factor S) 99 25 (Int32.ofInt 0))) R _
              refine u_st rfl (fun _ => rfl) ?_
              refine u_st rfl (fun _ => rfl) ?_
              refine u_st rfl (fun _ => rfl) ?_
              refine u_lc (b := [(0, .ref 100), (1, .int (Int32.ofInt 0))]) (show ([1, 0] : List Nat).Nodup by decide) (show ([0, 1] : List Nat).Nodup by decide) (fun i => match i with | 0 => rfl | 1 => rfl | _ + 2 => rfl) ?_
              exact (ih m hm) d (Int32.ofInt 0) (g_X12_stays (z_s (g_X12_factor S) 99 25 (Int32.ofInt 0))) hD
            · have hD := hD.2 h10
              show u_P L xs m d m_X12_value 48 [(0, .ref 100), (1, .int x1)] [] (g_X12_stays (z_s (g_X12_factor S) 99 25 (Int32.ofInt 0))) R _
              refine u_st rfl (fun _ => rfl) ?_
              refine u_st rfl (fun _ => rfl) ?_
              refine u_st rfl (fun _ => rfl) ?_
              refine u_st rfl (fun _ => rfl) ?_
              refine u_lc (b := [(0, .ref 100), (1, .int (Int32.ofInt 1))]) (show ([1, 0] : List Nat).Nodup by decide) (show ([0, 1] : List Nat).Nodup by decide) (fun i => match i with | 0 => rfl | 1 => rfl | _ + 2 => rfl) ?_
              exact (ih m hm) d (Int32.ofInt 1) (g_X12_stays (z_s (g_X12_factor S) 99 25 (Int32.ofInt 0))) hD
set_option maxRecDepth 4000 in
theorem w_X12_value (L : Nat) (xs : Nat → Int32) {R : v_Rf}  (H7 : Int32 → v_Sf → Prop) (K : v_Sf → Prop) (k7 : ∀ (x1 : Int32) (S : v_Sf), H7 x1 S → D_X12_value_7 H7 K x1 S) (n d : Nat) (S : v_Sf) (hD : D_X12_value H7 K S) : u_P L xs n d m_X12_value 0 (lv_args 0 [.ref 100]) [] S R (z_V R K) := by
  unfold D_X12_value at hD
  show u_P L xs n d m_X12_value 0 [(0, .ref 100)] [] S R _
  refine u_st rfl (fun _ => rfl) ?_
  refine u_st rfl (fun _ => rfl) ?_
  refine u_st rfl (fun _ => rfl) ?_
  refine u_st rfl (fun _ => rfl) ?_
  show u_P L xs n d m_X12_value 4 [(1, .int (Int32.ofInt 1)), (0, .ref 100)] [.int (Int32.ofInt 0), .ref 100] S R _
  refine u_put rfl v_tyM rfl ?_
  refine u_lc (b := [(0, .ref 100), (1, .int (Int32.ofInt 1))]) (show ([1, 0] : List Nat).Nodup by decide) (show ([0, 1] : List Nat).Nodup by decide) (fun i => match i with | 0 => rfl | 1 => rfl | _ + 2 => rfl) ?_
  exact (hd_X12_value L xs H7 K k7 n) d (Int32.ofInt 1) (z_s S 99 25 (Int32.ofInt 0)) hD
noncomputable def s_X12_value_7 (x1 : Int32) (S : v_Sf) : (Int32 × v_Sf) ⊕ (v_Sf) := (if x1 = 0 then (if (f_X12_isGood S) = 0 then (Sum.inr (S)) else (if ¬ (f_X12_top S) = (Int32.ofInt 91) then (Sum.inr (S)) else (Sum.inr (g_X12_wrongs (Int32.ofInt 1) (S 99 3) S)))) else (if (f_X12_isGood S) = 0 then (Sum.inr (S)) else (if ¬ (S 99 25) = 0 then (if (f_X12_isGood (z_s S 99 25 (Int32.ofInt 0))) = 0 then (Sum.inl ((Int32.ofInt 0), (z_s S 99 25 (Int32.ofInt 0)))) else (if (f_X12_stays (z_s S 99 25 (Int32.ofInt 0))) = 0 then (Sum.inl ((Int32.ofInt 0), (g_X12_stays (z_s S 99 25 (Int32.ofInt 0))))) else (Sum.inl ((Int32.ofInt 1), (g_X12_stays (z_s S 99 25 (Int32.ofInt 0))))))) else (if (f_X12_isGood (z_s (g_X12_factor S) 99 25 (Int32.ofInt 0))) = 0 then (Sum.inl ((Int32.ofInt 0), (z_s (g_X12_factor S) 99 25 (Int32.ofInt 0)))) else (if (f_X12_stays (z_s (g_X12_factor S) 99 25 (Int32.ofInt 0))) = 0 then (Sum.inl ((Int32.ofInt 0), (g_X12_stays (z_s (g_X12_factor S) 99 25 (Int32.ofInt 0))))) else (Sum.inl ((Int32.ofInt 1), (g_X12_stays (z_s (g_X12_factor S) 99 25 (Int32.ofInt 0))))))))))
noncomputable def F_X12_value  (S : v_Sf) : v_Sf := z_lim (fun p => s_X12_value_7 p.1 p.2) S ((Int32.ofInt 1), (z_s S 99 25 (Int32.ofInt 0)))
noncomputable def g_X12_value  (S : v_Sf) : v_Sf := F_X12_value  S
theorem c_X12_value (L : Nat) (xs : Nat → Int32) (n d : Nat)  (S : v_Sf) (R : v_Rf) : u_P L xs n d m_X12_value 0 (lv_args 0 [.ref 100]) [] S R (z_V R (fun S1 => g_X12_value  S = S1)) := by
  refine w_X12_value L xs  (fun y1 T => (∀ N out, z_itr (fun p => s_X12_value_7 p.1 p.2) N (y1, T) = some out → F_X12_value  S = out)) (fun S1 => g_X12_value  S = S1) ?_ n d S ?_
  · rintro x1 S1 e
    unfold D_X12_value_7
    refine ⟨fun q1 => ?_, fun q1 => ?_⟩
    · refine ⟨fun q2 => ?_, fun q2 => ?_⟩
      · have e := (e 1 _ (z_itr_r (by show s_X12_value_7 x1 S1 = _; rw [s_X12_value_7, if_pos q1, if_pos q2]))).symm
        exact e.symm
      · refine ⟨fun q3 => ?_, fun q3 => ?_⟩
        · have e := (e 1 _ (z_itr_r (by show s_X12_value_7 x1 S1 = _; rw [s_X12_value_7, if_pos q1, if_neg q2, if_pos q3]))).symm
          exact e.symm
        · have e := (e 1 _ (z_itr_r (by show s_X12_value_7 x1 S1 = _; rw [s_X12_value_7, if_pos q1, if_neg q2, if_neg q3]))).symm
          exact e.symm
    · refine ⟨fun q4 => ?_, fun q4 => ?_⟩
      · have e := (e 1 _ (z_itr_r (by show s_X12_value_7 x1 S1 = _; rw [s_X12_value_7, if_neg q1, if_pos q4]))).symm
        exact e.symm
      · refine ⟨fun q5 => ?_, fun q5 => ?_⟩
        · refine ⟨fun q6 => ?_, fun q6 => ?_⟩
          · exact fun N out h => e (N + 1) out ((z_itr_l (by show s_X12_value_7 x1 S1 = _; rw [s_X12_value_7, if_neg q1, if_neg q4, if_pos q5, if_pos q6])).trans h)
          · refine ⟨fun q7 => ?_, fun q7 => ?_⟩
            · exact fun N out h => e (N + 1) out ((z_itr_l (by show s_X12_value_7 x1 S1 = _; rw [s_X12_value_7, if_neg q1, if_neg q4, if_pos q5, if_neg q6, if_pos q7])).trans h)
            · exact fun N out h => e (N + 1) out ((z_itr_l (by show s_X12_value_7 x1 S1 = _; rw [s_X12_value_7, if_neg q1, if_neg q4, if_pos q5, if_neg q6, if_neg q7])).trans h)
        · refine ⟨fun q8 => ?_, fun q8 => ?_⟩
          · exact fun N out h => e (N + 1) out ((z_itr_l (by show s_X12_value_7 x1 S1 = _; rw [s_X12_value_7, if_neg q1, if_neg q4, if_neg q5, if_pos q8])).trans h)
          · refine ⟨fun q9 => ?_, fun q9 => ?_⟩
            · exact fun N out h => e (N + 1) out ((z_itr_l (by show s_X12_value_7 x1 S1 = _; rw [s_X12_value_7, if_neg q1, if_neg q4, if_neg q5, if_neg q8, if_pos q9])).trans h)
            · exact fun N out h => e (N + 1) out ((z_itr_l (by show s_X12_value_7 x1 S1 = _; rw [s_X12_value_7, if_neg q1, if_neg q4, if_neg q5, if_neg q8, if_neg q9])).trans h)
  · unfold D_X12_value
    have e : z_lim (fun p => s_X12_value_7 p.1 p.2) S ((Int32.ofInt 1), (z_s S 99 25 (Int32.ofInt 0))) = F_X12_value  S := by rw [F_X12_value]
    exact fun N out h => e.symm.trans (z_lim_eq h)
noncomputable def D_X12_pieceOfC_0  (H0 : v_Sf → Prop) (K : v_Sf → Prop)  (S : v_Sf) : Prop := (((f_X12_isGood S) = 0 → K S) ∧ (¬ ((f_X12_isGood S) = 0) → (((f_X12_here S) = (Int32.ofInt 33) → H0 (g_X12_opens S)) ∧ (¬ ((f_X12_here S) = (Int32.ofInt 33)) → (((¬ (f_X12_here S) = (Int32.ofInt 40)) → (((¬ (f_X12_isGood (g_X12_value S)) = 0) → (((¬ (f_X12_isCompared (f_X12_here (g_X12_value S))) = 0) → (((¬ (f_X12_isGood (g_X12_value (g_X12_puts (f_X12_here (g_X12_value S)) (g_X12_value S)))) = 0) → K (g_X12_ends (z_s (g_X12_emit (f_X12_top (g_X12_value (g_X12_puts (f_X12_here (g_X12_value S)) (g_X12_value S)))) (Int32.ofInt 0) (g_X12_value (g_X12_puts (f_X12_here (g_X12_value S)) (g_X12_value S)))) 99 9 (((g_X12_emit (f_X12_top (g_X12_value (g_X12_puts (f_X12_here (g_X12_value S)) (g_X12_value S)))) (Int32.ofInt 0) (g_X12_value (g_X12_puts (f_X12_here (g_X12_value S)) (g_X12_value S)))) 99 9) - (Int32.ofInt 1))))) ∧ (¬ (¬ (f_X12_isGood (g_X12_value (g_X12_puts (f_X12_here (g_X12_value S)) (g_X12_value S)))) = 0) → K (g_X12_value (g_X12_puts (f_X12_here (g_X12_value S)) (g_X12_value S)))))) ∧ (¬ (¬ (f_X12_isCompared (f_X12_here (g_X12_value S))) = 0) → K (g_X12_wrongs (Int32.ofInt 1) ((g_X12_value S) 99 3) (g_X12_value S))))) ∧ (¬ (¬ (f_X12_isGood (g_X12_value S)) = 0) → K (g_X12_value S)))) ∧ (¬ (¬ (f_X12_here S) = (Int32.ofInt 40)) → H0 (g_X12_opens S)))))))
noncomputable def D_X12_pieceOfC  (H0 : v_Sf → Prop) (K : v_Sf → Prop) (S : v_Sf) : Prop := H0 S
set_option maxRecDepth 4000 in
theorem hd_X12_pieceOfC (L : Nat) (xs : Nat → Int32) {R : v_Rf}  (H0 : v_Sf → Prop) (K : v_Sf → Prop) (k0 : ∀  (S : v_Sf), H0  S → D_X12_pieceOfC_0 H0 K S) : ∀ n, (∀ (d : Nat)  (S : v_Sf), H0  S → u_P L xs n d m_X12_pieceOfC 0 [(0, .ref 100)] [] S R (z_V R K)) := by
  intro n
  induction n using Nat.strongRecOn with
  | ind n ih =>
    intro d  S hD
    have hD := k0  S hD
    unfold D_X12_pieceOfC_0 at hD
    show u_P L xs n d m_X12_pieceOfC 0 [(0, .ref 100)] [] S R _
    refine u_st1 rfl (fun _ => rfl) (fun m hm => ?_)
    show u_P L xs m d m_X12_pieceOfC 1 [(0, .ref 100)] [.ref 100] S R _
    refine u_cv (rest := []) rfl (by decide) mt_X12_isGood v_tyM rfl rfl rfl (Nat.le_of_ble_eq_true rfl) (Nat.le_of_ble_eq_true rfl) (Nat.le_of_ble_eq_true rfl) (fun d' => c_X12_isGood L xs m d' S R) ?_
    rintro _ _ _ ⟨_, rfl, rfl, rfl, rfl⟩
    show u_P L xs m d m_X12_pieceOfC 4 [(0, .ref 100)] [.int (f_X12_isGood S)] S R _
    refine u_if_eq rfl (fun h1 => ?_) (fun h1 => ?_)
    · have hD := hD.1 h1
      show u_P L xs m d m_X12_pieceOfC 32 [(0, .ref 100)] [] S R _
      refine u_st rfl (fun _ => rfl) ?_
      show u_P L xs m d m_X12_pieceOfC 33 [(0, .ref 100)] [.ref 100] S R _
      refine u_cv (rest := []) rfl (by decide) mt_X12_isGood v_tyM rfl rfl rfl (Nat.le_of_ble_eq_true rfl) (Nat.le_of_ble_eq_true rfl) (Nat.le_of_ble_eq_true rfl) (fun d' => c_X12_isGood L xs m d' S R) ?_
      rintro _ _ _ ⟨_, rfl, rfl, rfl, rfl⟩
      show u_P L xs m d m_X12_pieceOfC 36 [(0, .ref 100)] [.int (f_X12_isGood S)] S R _
      refine u_if_eq rfl (fun _ => ?_) (fun h2 => absurd h1 h2)
      show u_P L xs m d m_X12_pieceOfC 43 [(0, .ref 100)] [] S R _
      refine u_st rfl (fun _ => rfl) ?_
      show u_P L xs m d m_X12_pieceOfC 44 [(0, .ref 100)] [.ref 100] S R _
      refine u_cv (rest := []) rfl (by decide) mt_X12_isGood v_tyM rfl rfl rfl (Nat.le_of_ble_eq_true rfl) (Nat.le_of_ble_eq_true rfl) (Nat.le_of_ble_eq_true rfl) (fun d' => c_X12_isGood L xs m d' S R) ?_
      rintro _ _ _ ⟨_, rfl, rfl, rfl, rfl⟩
      show u_P L xs m d m_X12_pieceOfC 47 [(0, .ref 100)] [.int (f_X12_isGood S)] S R _
      refine u_if_ne rfl (fun h3 => absurd h1 h3) (fun _ => ?_)
      show u_P L xs m d m_X12_pieceOfC 50 [(0, .ref 100)] [] S R _
      exact u_ret rfl rfl ⟨rfl, rfl, hD⟩
    · have hD := hD.2 h1
      show u_P L xs m d m_X12_pieceOfC 7 [(0, .ref 100)] [] S R _
      refine u_st rfl (fun _ => rfl) ?_
      show u_P L xs m d m_X12_pieceOfC 8 [(0, .ref 100)] [.ref 100] S R _
      refine u_cv (rest := []) rfl (by decide) mt_X12_here v_tyM rfl rfl rfl (Nat.le_of_ble_eq_true rfl) (Nat.le_of_ble_eq_true rfl) (Nat.le_of_ble_eq_true rfl) (fun d' => c_X12_here L xs m d' S R) ?_
      rintro _ _ _ ⟨_, rfl, rfl, rfl, rfl⟩
      refine u_st rfl (fun _ => rfl) ?_
      show u_P L xs m d m_X12_pieceOfC 13 [(0, .ref 100)] [.int (Int32.ofInt 33), .int (f_X12_here S)] S R _
      refine u_ic_eq rfl (fun h4 => ?_) (fun h4 => ?_)
      · have hD := hD.1 h4
        show u_P L xs m d m_X12_pieceOfC 25 [(0, .ref 100)] [] S R _
        refine u_st rfl (fun _ => rfl) ?_
        show u_P L xs m d m_X12_pieceOfC 26 [(0, .ref 100)] [.ref 100] S R _
        refine u_cv (rest := []) rfl (by decide) mt_X12_opens v_tyM rfl rfl rfl (Nat.le_of_ble_eq_true rfl) (Nat.le_of_ble_eq_true rfl) (Nat.le_of_ble_eq_true rfl) (fun d' => c_X12_opens L xs m d' S R) ?_
        rintro _ _ _ ⟨rfl, rfl, rfl⟩
        refine u_st rfl (fun _ => rfl) ?_
        exact (ih m hm) d (g_X12_opens S) hD
      · have hD := hD.2 h4
        show u_P L xs m d m_X12_pieceOfC 16 [(0, .ref 100)] [] S R _
        refine u_st rfl (fun _ => rfl) ?_
        show u_P L xs m d m_X12_pieceOfC 17 [(0, .ref 100)] [.ref 100] S R _
        refine u_cv (rest := []) rfl (by decide) mt_X12_here v_tyM rfl rfl rfl (Nat.le_of_ble_eq_true rfl) (Nat.le_of_ble_eq_true rfl) (Nat.le_of_ble_eq_true rfl) (fun d' => c_X12_here L xs m d' S R) ?_
        rintro _ _ _ ⟨_, rfl, rfl, rfl, rfl⟩
        refine u_st rfl (fun _ => rfl) ?_
        show u_P L xs m d m_X12_pieceOfC 22 [(0, .ref 100)] [.int (Int32.ofInt 40), .int (f_X12_here S)] S R _
        refine u_ic_ne rfl (fun h5 => ?_) (fun h5 => ?_)
        · have hD := hD.1 h5
          show u_P L xs m d m_X12_pieceOfC 32 [(0, .ref 100)] [] S R _
          refine u_st rfl (fun _ => rfl) ?_
          show u_P L xs m d m_X12_pieceOfC 33 [(0, .ref 100)] [.ref 100] S R _
          refine u_cv (rest := []) rfl (by decide) mt_X12_isGood v_tyM rfl rfl rfl (Nat.le_of_ble_eq_true rfl) (Nat.le_of_ble_eq_true rfl) (Nat.le_of_ble_eq_true rfl) (fun d' => c_X12_isGood L xs m d' S R) ?_
          rintro _ _ _ ⟨_, rfl, rfl, rfl, rfl⟩
          show u_P L xs m d m_X12_pieceOfC 36 [(0, .ref 100)] [.int (f_X12_isGood S)] S R _
          refine u_if_eq rfl (fun h6 => absurd h6 h1) (fun _ => ?_)
          show u_P L xs m d m_X12_pieceOfC 39 [(0, .ref 100)] [] S R _
          refine u_st rfl (fun _ => rfl) ?_
          show u_P L xs m d m_X12_pieceOfC 40 [(0, .ref 100)] [.ref 100] S R _
          refine u_cv (rest := []) rfl (by decide) mt_X12_value v_tyM rfl rfl rfl (Nat.le_of_ble_eq_true rfl) (Nat.le_of_ble_eq_true rfl) (Nat.le_of_ble_eq_true rfl) (fun d' => c_X12_value L xs m d' S R) ?_
          rintro _ _ _ ⟨rfl, rfl, rfl⟩
          refine u_st rfl (fun _ => rfl) ?_
          show u_P L xs m d m_X12_pieceOfC 44 [(0, .ref 100)] [.ref 100] (g_X12_value S) R _
          refine u_cv (rest := []) rfl (by decide) mt_X12_isGood v_tyM rfl rfl rfl (Nat.le_of_ble_eq_true rfl) (Nat.le_of_ble_eq_true rfl) (Nat.le_of_ble_eq_true rfl) (fun d' => c_X12_isGood L xs m d' (g_X12_value S) R) ?_
          rintro _ _ _ ⟨_, rfl, rfl, rfl, rfl⟩
          show u_P L xs m d m_X12_pieceOfC 47 [(0, .ref 100)] [.int (f_X12_isGood (g_X12_value S))] (g_X12_value S) R _
          refine u_if_ne rfl (fun h7 => ?_) (fun h7 => ?_)
          · have hD := hD.1 h7
            show u_P L xs m d m_X12_pieceOfC 51 [(0, .ref 100)] [] (g_X12_value S) R _
            refine u_st rfl (fun _ => rfl) ?_
            show u_P L xs m d m_X12_pieceOfC 52 [(0, .ref 100)] [.ref 100] (g_X12_value S) R _
            refine u_cv (rest := []) rfl (by decide) mt_X12_here v_tyM rfl rfl rfl (Nat.le_of_ble_eq_true rfl) (Nat.le_of_ble_eq_true rfl) (Nat.le_of_ble_eq_true rfl) (fun d' => c_X12_here L xs m d' (g_X12_value S) R) ?_
            rintro _ _ _ ⟨_, rfl, rfl, rfl, rfl⟩
            refine u_st rfl (fun _ => rfl) ?_
            refine u_st rfl (fun _ => rfl) ?_
            show u_P L xs m d m_X12_pieceOfC 57 [(1, .int (f_X12_here (g_X12_value S))), (0, .ref 100)] [.int (f_X12_here (g_X12_value S))] (g_X12_value S) R _
            refine u_cs (ac := [.int (f_X12_here (g_X12_value S))]) (rest := []) rfl (by decide) mt_X12_isCompared (fun _ => rfl) (Nat.le_of_ble_eq_true rfl) (Nat.le_of_ble_eq_true rfl) (fun d' => c_X12_isCompared L xs m d' (f_X12_here (g_X12_value S)) (g_X12_value S) R) ?_
            rintro _ _ _ ⟨_, rfl, rfl, rfl, rfl⟩
            show u_P L xs m d m_X12_pieceOfC 60 [(1, .int (f_X12_here (g_X12_value S))), (0, .ref 100)] [.int (f_X12_isCompared (f_X12_here (g_X12_value S)))] (g_X12_value S) R _
            refine u_if_ne rfl (fun h8 => ?_) (fun h8 => ?_)
            · have hD := hD.1 h8
              show u_P L xs m d m_X12_pieceOfC 73 [(1, .int (f_X12_here (g_X12_value S))), (0, .ref 100)] [] (g_X12_value S) R _
              refine u_st rfl (fun _ => rfl) ?_
              refine u_st rfl (fun _ => rfl) ?_
              show u_P L xs m d m_X12_pieceOfC 75 [(1, .int (f_X12_here (g_X12_value S))), (0, .ref 100)] [.int (f_X12_here (g_X12_value S)), .ref 100] (g_X12_value S) R _
              refine u_cv (rest := []) rfl (by decide) mt_X12_puts v_tyM rfl rfl rfl (Nat.le_of_ble_eq_true rfl) (Nat.le_of_ble_eq_true rfl) (Nat.le_of_ble_eq_true rfl) (fun d' => c_X12_puts L xs m d' (f_X12_here (g_X12_value S)) (g_X12_value S) R) ?_
              rintro _ _ _ ⟨rfl, rfl, rfl⟩
              refine u_st rfl (fun _ => rfl) ?_
              show u_P L xs m d m_X12_pieceOfC 79 [(1, .int (f_X12_here (g_X12_value S))), (0, .ref 100)] [.ref 100] (g_X12_puts (f_X12_here (g_X12_value S)) (g_X12_value S)) R _
              refine u_cv (rest := []) rfl (by decide) mt_X12_value v_tyM rfl rfl rfl (Nat.le_of_ble_eq_true rfl) (Nat.le_of_ble_eq_true rfl) (Nat.le_of_ble_eq_true rfl) (fun d' => c_X12_value L xs m d' (g_X12_puts (f_X12_here (g_X12_value S)) (g_X12_value S)) R) ?_
              rintro _ _ _ ⟨rfl, rfl, rfl⟩
              refine u_st rfl (fun _ => rfl) ?_
              show u_P L xs m d m_X12_pieceOfC 83 [(1, .int (f_X12_here (g_X12_value S))), (0, .ref 100)] [.ref 100] (g_X12_value (g_X12_puts (f_X12_here (g_X12_value S)) (g_X12_value S))) R _
              refine u_cv (rest := []) rfl (by decide) mt_X12_isGood v_tyM rfl rfl rfl (Nat.le_of_ble_eq_true rfl) (Nat.le_of_ble_eq_true rfl) (Nat.le_of_ble_eq_true rfl) (fun d' => c_X12_isGood L xs m d' (g_X12_value (g_X12_puts (f_X12_here (g_X12_value S)) (g_X12_value S))) R) ?_
              rintro _ _ _ ⟨_, rfl, rfl, rfl, rfl⟩
              show u_P L xs m d m_X12_pieceOfC 86 [(1, .int (f_X12_here (g_X12_value S))), (0, .ref 100)] [.int (f_X12_isGood (g_X12_value (g_X12_puts (f_X12_here (g_X12_value S)) (g_X12_value S))))] (g_X12_value (g_X12_puts (f_X12_here (g_X12_value S)) (g_X12_value S))) R _
              refine u_if_ne rfl (fun h9 => ?_) (fun h9 => ?_)
              · have hD := hD.1 h9
                show u_P L xs m d m_X12_pieceOfC 90 [(1, .int (f_X12_here (g_X12_value S))), (0, .ref 100)] [] (g_X12_value (g_X12_puts (f_X12_here (g_X12_value S)) (g_X12_value S))) R _
                refine u_st rfl (fun _ => rfl) ?_
                refine u_st rfl (fun _ => rfl) ?_
                show u_P L xs m d m_X12_pieceOfC 92 [(1, .int (f_X12_here (g_X12_value S))), (0, .ref 100)] [.ref 100, .ref 100] (g_X12_value (g_X12_puts (f_X12_here (g_X12_value S)) (g_X12_value S))) R _
                refine u_cv (rest := [.ref 100]) rfl (by decide) mt_X12_top v_tyM rfl rfl rfl (Nat.le_of_ble_eq_true rfl) (Nat.le_of_ble_eq_true rfl) (Nat.le_of_ble_eq_true rfl) (fun d' => c_X12_top L xs m d' (g_X12_value (g_X12_puts (f_X12_here (g_X12_value S)) (g_X12_value S))) R) ?_
                rintro _ _ _ ⟨_, rfl, rfl, rfl, rfl⟩
                refine u_st rfl (fun _ => rfl) ?_
                show u_P L xs m d m_X12_pieceOfC 96 [(1, .int (f_X12_here (g_X12_value S))), (0, .ref 100)] [.int (Int32.ofInt 0), .int (f_X12_top (g_X12_value (g_X12_puts (f_X12_here (g_X12_value S)) (g_X12_value S)))), .ref 100] (g_X12_value (g_X12_puts (f_X12_here (g_X12_value S)) (g_X12_value S))) R _
                refine u_cv (rest := []) rfl (by decide) mt_X12_emit v_tyM rfl rfl rfl (Nat.le_of_ble_eq_true rfl) (Nat.le_of_ble_eq_true rfl) (Nat.le_of_ble_eq_true rfl) (fun d' => c_X12_emit L xs m d' (f_X12_top (g_X12_value (g_X12_puts (f_X12_here (g_X12_value S)) (g_X12_value S)))) (Int32.ofInt 0) (g_X12_value (g_X12_puts (f_X12_here (g_X12_value S)) (g_X12_value S))) R) ?_
                rintro _ _ _ ⟨rfl, rfl, rfl⟩
                refine u_st rfl (fun _ => rfl) ?_
                refine u_st rfl (fun _ => rfl) ?_
                show u_P L xs m d m_X12_pieceOfC 101 [(1, .int (f_X12_here (g_X12_value S))), (0, .ref 100)] [.ref 100, .ref 100] (g_X12_emit (f_X12_top (g_X12_value (g_X12_puts (f_X12_here (g_X12_value S)) (g_X12_value S)))) (Int32.ofInt 0) (g_X12_value (g_X12_puts (f_X12_here (g_X12_value S)) (g_X12_value S)))) R _
                refine u_getE (v := (g_X12_emit (f_X12_top (g_X12_value (g_X12_puts (f_X12_here (g_X12_value S)) (g_X12_value S)))) (Int32.ofInt 0) (g_X12_value (g_X12_puts (f_X12_here (g_X12_value S)) (g_X12_value S)))) 99 9) rfl v_tyM rfl rfl ?_
                refine u_st rfl (fun _ => rfl) ?_
                refine u_st rfl (fun _ => rfl) ?_
                show u_P L xs m d m_X12_pieceOfC 106 [(1, .int (f_X12_here (g_X12_value S))), (0, .ref 100)] [.int (((g_X12_emit (f_X12_top (g_X12_value (g_X12_puts (f_X12_here (g_X12_value S)) (g_X12_value S)))) (Int32.ofInt 0) (g_X12_value (g_X12_puts (f_X12_here (g_X12_value S)) (g_X12_value S)))) 99 9) - (Int32.ofInt 1)), .ref 100] (g_X12_emit (f_X12_top (g_X12_value (g_X12_puts (f_X12_here (g_X12_value S)) (g_X12_value S)))) (Int32.ofInt 0) (g_X12_value (g_X12_puts (f_X12_here (g_X12_value S)) (g_X12_value S)))) R _
                refine u_put rfl v_tyM rfl ?_
                refine u_st rfl (fun _ => rfl) ?_
                show u_P L xs m d m_X12_pieceOfC 110 [(1, .int (f_X12_here (g_X12_value S))), (0, .ref 100)] [.ref 100] (z_s (g_X12_emit (f_X12_top (g_X12_value (g_X12_puts (f_X12_here (g_X12_value S)) (g_X12_value S)))) (Int32.ofInt 0) (g_X12_value (g_X12_puts (f_X12_here (g_X12_value S)) (g_X12_value S)))) 99 9 (((g_X12_emit (f_X12_top (g_X12_value (g_X12_puts (f_X12_here (g_X12_value S)) (g_X12_value S)))) (Int32.ofInt 0) (g_X12_value (g_X12_puts (f_X12_here (g_X12_value S)) (g_X12_value S)))) 99 9) - (Int32.ofInt 1))) R _
                refine u_cv (rest := []) rfl (by decide) mt_X12_ends v_tyM rfl rfl rfl (Nat.le_of_ble_eq_true rfl) (Nat.le_of_ble_eq_true rfl) (Nat.le_of_ble_eq_true rfl) (fun d' => c_X12_ends L xs m d' (z_s (g_X12_emit (f_X12_top (g_X12_value (g_X12_puts (f_X12_here (g_X12_value S)) (g_X12_value S)))) (Int32.ofInt 0) (g_X12_value (g_X12_puts (f_X12_here (g_X12_value S)) (g_X12_value S)))) 99 9 (((g_X12_emit (f_X12_top (g_X12_value (g_X12_puts (f_X12_here (g_X12_value S)) (g_X12_value S)))) (Int32.ofInt 0) (g_X12_value (g_X12_puts (f_X12_here (g_X12_value S)) (g_X12_value S)))) 99 9) - (Int32.ofInt 1))) R) ?_
                rintro _ _ _ ⟨rfl, rfl, rfl⟩
                show u_P L xs m d m_X12_pieceOfC 113 [(1, .int (f_X12_here (g_X12_value S))), (0, .ref 100)] [] (g_X12_ends (z_s (g_X12_emit (f_X12_top (g_X12_value (g_X12_puts (f_X12_here (g_X12_value S)) (g_X12_value S)))) (Int32.ofInt 0) (g_X12_value (g_X12_puts (f_X12_here (g_X12_value S)) (g_X12_value S)))) 99 9 (((g_X12_emit (f_X12_top (g_X12_value (g_X12_puts (f_X12_here (g_X12_value S)) (g_X12_value S)))) (Int32.ofInt 0) (g_X12_value (g_X12_puts (f_X12_here (g_X12_value S)) (g_X12_value S)))) 99 9) - (Int32.ofInt 1)))) R _
                exact u_ret rfl rfl ⟨rfl, rfl, hD⟩
              · have hD := hD.2 h9
                show u_P L xs m d m_X12_pieceOfC 89 [(1, .int (f_X12_here (g_X12_value S))), (0, .ref 100)] [] (g_X12_value (g_X12_puts (f_X12_here (g_X12_value S)) (g_X12_value S))) R _
                exact u_ret rfl rfl ⟨rfl, rfl, hD⟩
            · have hD := hD.2 h8
              show u_P L xs m d m_X12_pieceOfC 63 [(1, .int (f_X12_here (g_X12_value S))), (0, .ref 100)] [] (g_X12_value S) R _
              refine u_st rfl (fun _ => rfl) ?_
              refine u_st rfl (fun _ => rfl) ?_
              refine u_st rfl (fun _ => rfl) ?_
              show u_P L xs m d m_X12_pieceOfC 66 [(1, .int (f_X12_here (g_X12_value S))), (0, .ref 100)] [.ref 100, .int (Int32.ofInt 1), .ref 100] (g_X12_value S) R _
              refine u_getE (v := (g_X12_value S) 99 3) rfl v_tyM rfl rfl ?_
              show u_P L xs m d m_X12_pieceOfC 69 [(1, .int (f_X12_here (g_X12_value S))), (0, .ref 100)] [.int ((g_X12_value S) 99 3), .int (Int32.ofInt 1), .ref 100] (g_X12_value S) R _
              refine u_cv (rest := []) rfl (by decide) mt_X12_wrongs v_tyM rfl rfl rfl (Nat.le_of_ble_eq_true rfl) (Nat.le_of_ble_eq_true rfl) (Nat.le_of_ble_eq_true rfl) (fun d' => c_X12_wrongs L xs m d' (Int32.ofInt 1) ((g_X12_value S) 99 3) (g_X12_value S) R) ?_
              rintro _ _ _ ⟨rfl, rfl, rfl⟩
              show u_P L xs m d m_X12_pieceOfC 72 [(1, .int (f_X12_here (g_X12_value S))), (0, .ref 100)] [] (g_X12_wrongs (Int32.ofInt 1) ((g_X12_value S) 99 3) (g_X12_value S)) R _
              exact u_ret rfl rfl ⟨rfl, rfl, hD⟩
          · have hD := hD.2 h7
            show u_P L xs m d m_X12_pieceOfC 50 [(0, .ref 100)] [] (g_X12_value S) R _
            exact u_ret rfl rfl ⟨rfl, rfl, hD⟩
        · have hD := hD.2 h5
          show u_P L xs m d m_X12_pieceOfC 25 [(0, .ref 100)] [] S R _
          refine u_st rfl (fun _ => rfl) ?_
          show u_P L xs m d m_X12_pieceOfC 26 [(0, .ref 100)] [.ref 100] S R _
          refine u_cv (rest := []) rfl (by decide) mt_X12_opens v_tyM rfl rfl rfl (Nat.le_of_ble_eq_true rfl) (Nat.le_of_ble_eq_true rfl) (Nat.le_of_ble_eq_true rfl) (fun d' => c_X12_opens L xs m d' S R) ?_
          rintro _ _ _ ⟨rfl, rfl, rfl⟩
          refine u_st rfl (fun _ => rfl) ?_
          exact (ih m hm) d (g_X12_opens S) hD
set_option maxRecDepth 4000 in
theorem w_X12_pieceOfC (L : Nat) (xs : Nat → Int32) {R : v_Rf}  (H0 : v_Sf → Prop) (K : v_Sf → Prop) (k0 : ∀  (S : v_Sf), H0  S → D_X12_pieceOfC_0 H0 K S) (n d : Nat) (S : v_Sf) (hD : D_X12_pieceOfC H0 K S) : u_P L xs n d m_X12_pieceOfC 0 (lv_args 0 [.ref 100]) [] S R (z_V R K) := by
  unfold D_X12_pieceOfC at hD
  show u_P L xs n d m_X12_pieceOfC 0 [(0, .ref 100)] [] S R _
  exact (hd_X12_pieceOfC L xs H0 K k0 n) d S hD
noncomputable def s_X12_pieceOfC_0 (S : v_Sf) : (v_Sf) ⊕ (v_Sf) := (if (f_X12_isGood S) = 0 then (Sum.inr (S)) else (if (f_X12_here S) = (Int32.ofInt 33) then (Sum.inl (g_X12_opens S)) else (if ¬ (f_X12_here S) = (Int32.ofInt 40) then (if ¬ (f_X12_isGood (g_X12_value S)) = 0 then (if ¬ (f_X12_isCompared (f_X12_here (g_X12_value S))) = 0 then (if ¬ (f_X12_isGood (g_X12_value (g_X12_puts (f_X12_here (g_X12_value S)) (g_X12_value S)))) = 0 then (Sum.inr (g_X12_ends (z_s (g_X12_emit (f_X12_top (g_X12_value (g_X12_puts (f_X12_here (g_X12_value S)) (g_X12_value S)))) (Int32.ofInt 0) (g_X12_value (g_X12_puts (f_X12_here (g_X12_value S)) (g_X12_value S)))) 99 9 (((g_X12_emit (f_X12_top (g_X12_value (g_X12_puts (f_X12_here (g_X12_value S)) (g_X12_value S)))) (Int32.ofInt 0) (g_X12_value (g_X12_puts (f_X12_here (g_X12_value S)) (g_X12_value S)))) 99 9) - (Int32.ofInt 1))))) else (Sum.inr (g_X12_value (g_X12_puts (f_X12_here (g_X12_value S)) (g_X12_value S))))) else (Sum.inr (g_X12_wrongs (Int32.ofInt 1) ((g_X12_value S) 99 3) (g_X12_value S)))) else (Sum.inr (g_X12_value S))) else (Sum.inl (g_X12_opens S)))))
noncomputable def F_X12_pieceOfC  (S : v_Sf) : v_Sf := z_lim (fun p => s_X12_pieceOfC_0 p) S S
noncomputable def g_X12_pieceOfC  (S : v_Sf) : v_Sf := F_X12_pieceOfC  S
theorem c_X12_pieceOfC (L : Nat) (xs : Nat → Int32) (n d : Nat)  (S : v_Sf) (R : v_Rf) : u_P L xs n d m_X12_pieceOfC 0 (lv_args 0 [.ref 100]) [] S R (z_V R (fun S1 => g_X12_pieceOfC  S = S1)) := by
  refine w_X12_pieceOfC L xs  (fun  T => (∀ N out, z_itr (fun p => s_X12_pieceOfC_0 p) N T = some out → F_X12_pieceOfC  S = out)) (fun S1 => g_X12_pieceOfC  S = S1) ?_ n d S ?_
  · rintro  S1 e
    unfold D_X12_pieceOfC_0
    refine ⟨fun q1 => ?_, fun q1 => ?_⟩
    · have e := (e 1 _ (z_itr_r (by show s_X12_pieceOfC_0 S1 = _; rw [s_X12_pieceOfC_0, if_pos q1]))).symm
      exact e.symm
    · refine ⟨fun q2 => ?_, fun q2 => ?_⟩
      · exact fun N out h => e (N + 1) out ((z_itr_l (by show s_X12_pieceOfC_0 S1 = _; rw [s_X12_pieceOfC_0, if_neg q1, if_pos q2])).trans h)
      · refine ⟨fun q3 => ?_, fun q3 => ?_⟩
        · refine ⟨fun q4 => ?_, fun q4 => ?_⟩
          · refine ⟨fun q5 => ?_, fun q5 => ?_⟩
            · refine ⟨fun q6 => ?_, fun q6 => ?_⟩
              · have e := (e 1 _ (z_itr_r (by show s_X12_pieceOfC_0 S1 = _; rw [s_X12_pieceOfC_0, if_neg q1, if_neg q2, if_pos q3, if_pos q4, if_pos q5, if_pos q6]))).symm
                exact e.symm
              · have e := (e 1 _ (z_itr_r (by show s_X12_pieceOfC_0 S1 = _; rw [s_X12_pieceOfC_0, if_neg q1, if_neg q2, if_pos q3, if_pos q4, if_pos q5, if_neg q6]))).symm
                exact e.symm
            · have e := (e 1 _ (z_itr_r (by show s_X12_pieceOfC_0 S1 = _; rw [s_X12_pieceOfC_0, if_neg q1, if_neg q2, if_pos q3, if_pos q4, if_neg q5]))).symm
              exact e.symm
          · have e := (e 1 _ (z_itr_r (by show s_X12_pieceOfC_0 S1 = _; rw [s_X12_pieceOfC_0, if_neg q1, if_neg q2, if_pos q3, if_neg q4]))).symm
            exact e.symm
        · exact fun N out h => e (N + 1) out ((z_itr_l (by show s_X12_pieceOfC_0 S1 = _; rw [s_X12_pieceOfC_0, if_neg q1, if_neg q2, if_neg q3])).trans h)
  · unfold D_X12_pieceOfC
    have e : z_lim (fun p => s_X12_pieceOfC_0 p) S S = F_X12_pieceOfC  S := by rw [F_X12_pieceOfC]
    exact fun N out h => e.symm.trans (z_lim_eq h)
noncomputable def f_X12_goesBehind  (S : v_Sf) : Int32 := (if (f_X12_here S) = (Int32.ofInt 38) then Int32.ofInt 1 else (if ¬ (f_X12_here S) = (Int32.ofInt 124) then (if (f_X12_here S) = (Int32.ofInt 41) then (if ¬ (((g_X12_joins (Int32.ofInt 1) S) 99 9) - (Int32.ofInt 1)) = 0 then Int32.ofInt 0 else Int32.ofInt 0) else Int32.ofInt 0) else Int32.ofInt 1))
noncomputable def g_X12_goesBehind  (S : v_Sf) : v_Sf := (if (f_X12_here S) = (Int32.ofInt 38) then g_X12_puts (f_X12_here S) (g_X12_joins (Int32.ofInt 0) S) else (if ¬ (f_X12_here S) = (Int32.ofInt 124) then (if (f_X12_here S) = (Int32.ofInt 41) then (if ¬ (((g_X12_joins (Int32.ofInt 1) S) 99 9) - (Int32.ofInt 1)) = 0 then g_X12_ends (z_s (z_s (z_s (z_s (g_X12_joins (Int32.ofInt 1) S) 99 9 (((g_X12_joins (Int32.ofInt 1) S) 99 9) - (Int32.ofInt 1))) 99 8 (((g_X12_joins (Int32.ofInt 1) S) 99 8) - (Int32.ofInt 1))) 99 3 (((g_X12_joins (Int32.ofInt 1) S) 99 3) + (Int32.ofInt 1))) 99 24 (Int32.ofInt 0)) else z_s (z_s (z_s (z_s (g_X12_joins (Int32.ofInt 1) S) 99 9 (((g_X12_joins (Int32.ofInt 1) S) 99 9) - (Int32.ofInt 1))) 99 8 (((g_X12_joins (Int32.ofInt 1) S) 99 8) - (Int32.ofInt 1))) 99 3 (((g_X12_joins (Int32.ofInt 1) S) 99 3) + (Int32.ofInt 1))) 99 24 (Int32.ofInt 1)) else g_X12_wrongs (Int32.ofInt 1) (S 99 3) S) else g_X12_puts (f_X12_here S) (g_X12_joins (Int32.ofInt 1) S)))
set_option maxRecDepth 4000 in
theorem c_X12_goesBehind (L : Nat) (xs : Nat → Int32) (n d : Nat)  (S : v_Sf) (R : v_Rf) : u_P L xs n d m_X12_goesBehind 0 (lv_args 0 [.ref 100]) [] S R (z_Q R (fun v S1 => f_X12_goesBehind  S = v ∧ g_X12_goesBehind  S = S1)) := by
  show u_P L xs n d m_X12_goesBehind 0 [(0, .ref 100)] [] S R _
  refine u_st rfl (fun _ => rfl) ?_
  show u_P L xs n d m_X12_goesBehind 1 [(0, .ref 100)] [.ref 100] S R _
  refine u_cv (rest := []) rfl (by decide) mt_X12_here v_tyM rfl rfl rfl (Nat.le_of_ble_eq_true rfl) (Nat.le_of_ble_eq_true rfl) (Nat.le_of_ble_eq_true rfl) (fun d' => c_X12_here L xs n d' S R) ?_
  rintro _ _ _ ⟨_, rfl, rfl, rfl, rfl⟩
  refine u_st rfl (fun _ => rfl) ?_
  refine u_st rfl (fun _ => rfl) ?_
  refine u_st rfl (fun _ => rfl) ?_
  show u_P L xs n d m_X12_goesBehind 8 [(1, .int (f_X12_here S)), (0, .ref 100)] [.int (Int32.ofInt 38), .int (f_X12_here S)] S R _
  refine u_ic_eq rfl (fun h1 => ?_) (fun h1 => ?_)
  · show u_P L xs n d m_X12_goesBehind 17 [(1, .int (f_X12_here S)), (0, .ref 100)] [] S R _
    refine u_st rfl (fun _ => rfl) ?_
    refine u_st rfl (fun _ => rfl) ?_
    refine u_st rfl (fun _ => rfl) ?_
    show u_P L xs n d m_X12_goesBehind 21 [(1, .int (f_X12_here S)), (0, .ref 100)] [.int (Int32.ofInt 124), .int (f_X12_here S), .ref 100] S R _
    refine u_ic_ne rfl (fun _ => ?_) (fun h2 => absurd (h1.symm.trans (Classical.not_not.mp h2)) (by decide))
    show u_P L xs n d m_X12_goesBehind 28 [(1, .int (f_X12_here S)), (0, .ref 100)] [.ref 100] S R _
    refine u_st rfl (fun _ => rfl) ?_
    show u_P L xs n d m_X12_goesBehind 29 [(1, .int (f_X12_here S)), (0, .ref 100)] [.int (Int32.ofInt 0), .ref 100] S R _
    refine u_cv (rest := []) rfl (by decide) mt_X12_joins v_tyM rfl rfl rfl (Nat.le_of_ble_eq_true rfl) (Nat.le_of_ble_eq_true rfl) (Nat.le_of_ble_eq_true rfl) (fun d' => c_X12_joins L xs n d' (Int32.ofInt 0) S R) ?_
    rintro _ _ _ ⟨rfl, rfl, rfl⟩
    refine u_st rfl (fun _ => rfl) ?_
    refine u_st rfl (fun _ => rfl) ?_
    show u_P L xs n d m_X12_goesBehind 34 [(1, .int (f_X12_here S)), (0, .ref 100)] [.int (f_X12_here S), .ref 100] (g_X12_joins (Int32.ofInt 0) S) R _
    refine u_cv (rest := []) rfl (by decide) mt_X12_puts v_tyM rfl rfl rfl (Nat.le_of_ble_eq_true rfl) (Nat.le_of_ble_eq_true rfl) (Nat.le_of_ble_eq_true rfl) (fun d' => c_X12_puts L xs n d' (f_X12_here S) (g_X12_joins (Int32.ofInt 0) S) R) ?_
    rintro _ _ _ ⟨rfl, rfl, rfl⟩
    refine u_st rfl (fun _ => rfl) ?_
    show u_P L xs n d m_X12_goesBehind 38 [(1, .int (f_X12_here S)), (0, .ref 100)] [.int (Int32.ofInt 1)] (g_X12_puts (f_X12_here S) (g_X12_joins (Int32.ofInt 0) S)) R _
    exact u_retb rfl rfl ⟨_, rfl, rfl, by rw [f_X12_goesBehind, if_pos h1], by rw [g_X12_goesBehind, if_pos h1]⟩
  · show u_P L xs n d m_X12_goesBehind 11 [(1, .int (f_X12_here S)), (0, .ref 100)] [] S R _
    refine u_st rfl (fun _ => rfl) ?_
    refine u_st rfl (fun _ => rfl) ?_
    show u_P L xs n d m_X12_goesBehind 14 [(1, .int (f_X12_here S)), (0, .ref 100)] [.int (Int32.ofInt 124), .int (f_X12_here S)] S R _
    refine u_ic_ne rfl (fun h3 => ?_) (fun h3 => ?_)
    · show u_P L xs n d m_X12_goesBehind 39 [(1, .int (f_X12_here S)), (0, .ref 100)] [] S R _
      refine u_st rfl (fun _ => rfl) ?_
      refine u_st rfl (fun _ => rfl) ?_
      show u_P L xs n d m_X12_goesBehind 42 [(1, .int (f_X12_here S)), (0, .ref 100)] [.int (Int32.ofInt 41), .int (f_X12_here S)] S R _
      refine u_ic_eq rfl (fun h4 => ?_) (fun h4 => ?_)
      · show u_P L xs n d m_X12_goesBehind 56 [(1, .int (f_X12_here S)), (0, .ref 100)] [] S R _
        refine u_st rfl (fun _ => rfl) ?_
        refine u_st rfl (fun _ => rfl) ?_
        show u_P L xs n d m_X12_goesBehind 58 [(1, .int (f_X12_here S)), (0, .ref 100)] [.int (Int32.ofInt 1), .ref 100] S R _
        refine u_cv (rest := []) rfl (by decide) mt_X12_joins v_tyM rfl rfl rfl (Nat.le_of_ble_eq_true rfl) (Nat.le_of_ble_eq_true rfl) (Nat.le_of_ble_eq_true rfl) (fun d' => c_X12_joins L xs n d' (Int32.ofInt 1) S R) ?_
        rintro _ _ _ ⟨rfl, rfl, rfl⟩
        refine u_st rfl (fun _ => rfl) ?_
        refine u_st rfl (fun _ => rfl) ?_
        show u_P L xs n d m_X12_goesBehind 63 [(1, .int (f_X12_here S)), (0, .ref 100)] [.ref 100, .ref 100] (g_X12_joins (Int32.ofInt 1) S) R _
        refine u_getE (v := (g_X12_joins (Int32.ofInt 1) S) 99 9) rfl v_tyM rfl rfl ?_
        refine u_st rfl (fun _ => rfl) ?_
        refine u_st rfl (fun _ => rfl) ?_
        show u_P L xs n d m_X12_goesBehind 68 [(1, .int (f_X12_here S)), (0, .ref 100)] [.int (((g_X12_joins (Int32.ofInt 1) S) 99 9) - (Int32.ofInt 1)), .ref 100] (g_X12_joins (Int32.ofInt 1) S) R _
        refine u_put rfl v_tyM rfl ?_
        refine u_st rfl (fun _ => rfl) ?_
        refine u_st rfl (fun _ => rfl) ?_
        show u_P L xs n d m_X12_goesBehind 73 [(1, .int (f_X12_here S)), (0, .ref 100)] [.ref 100, .ref 100] (z_s (g_X12_joins (Int32.ofInt 1) S) 99 9 (((g_X12_joins (Int32.ofInt 1) S) 99 9) - (Int32.ofInt 1))) R _
        refine u_getE (v := (g_X12_joins (Int32.ofInt 1) S) 99 8) rfl v_tyM rfl (z_sn (fun h => absurd h.2 (by decide))) ?_
        refine u_st rfl (fun _ => rfl) ?_
        refine u_st rfl (fun _ => rfl) ?_
        show u_P L xs n d m_X12_goesBehind 78 [(1, .int (f_X12_here S)), (0, .ref 100)] [.int (((g_X12_joins (Int32.ofInt 1) S) 99 8) - (Int32.ofInt 1)), .ref 100] (z_s (g_X12_joins (Int32.ofInt 1) S) 99 9 (((g_X12_joins (Int32.ofInt 1) S) 99 9) - (Int32.ofInt 1))) R _
        refine u_put rfl v_tyM rfl ?_
        refine u_st rfl (fun _ => rfl) ?_
        refine u_st rfl (fun _ => rfl) ?_
        show u_P L xs n d m_X12_goesBehind 83 [(1, .int (f_X12_here S)), (0, .ref 100)] [.ref 100, .ref 100] (z_s (z_s (g_X12_joins (Int32.ofInt 1) S) 99 9 (((g_X12_joins (Int32.ofInt 1) S) 99 9) - (Int32.ofInt 1))) 99 8 (((g_X12_joins (Int32.ofInt 1) S) 99 8) - (Int32.ofInt 1))) R _
        refine u_getE (v := (g_X12_joins (Int32.ofInt 1) S) 99 3) rfl v_tyM rfl ((z_sn (fun h => absurd h.2 (by decide))).trans (z_sn (fun h => absurd h.2 (by decide)))) ?_
        refine u_st rfl (fun _ => rfl) ?_
        refine u_st rfl (fun _ => rfl) ?_
        show u_P L xs n d m_X12_goesBehind 88 [(1, .int (f_X12_here S)), (0, .ref 100)] [.int (((g_X12_joins (Int32.ofInt 1) S) 99 3) + (Int32.ofInt 1)), .ref 100] (z_s (z_s (g_X12_joins (Int32.ofInt 1) S) 99 9 (((g_X12_joins (Int32.ofInt 1) S) 99 9) - (Int32.ofInt 1))) 99 8 (((g_X12_joins (Int32.ofInt 1) S) 99 8) - (Int32.ofInt 1))) R _
        refine u_put rfl v_tyM rfl ?_
        refine u_st rfl (fun _ => rfl) ?_
        refine u_st rfl (fun _ => rfl) ?_
        show u_P L xs n d m_X12_goesBehind 93 [(1, .int (f_X12_here S)), (0, .ref 100)] [.ref 100, .ref 100] (z_s (z_s (z_s (g_X12_joins (Int32.ofInt 1) S) 99 9 (((g_X12_joins (Int32.ofInt 1) S) 99 9) - (Int32.ofInt 1))) 99 8 (((g_X12_joins (Int32.ofInt 1) S) 99 8) - (Int32.ofInt 1))) 99 3 (((g_X12_joins (Int32.ofInt 1) S) 99 3) + (Int32.ofInt 1))) R _
        refine u_getE (v := ((g_X12_joins (Int32.ofInt 1) S) 99 9) - (Int32.ofInt 1)) rfl v_tyM rfl ((z_sn (fun h => absurd h.2 (by decide))).trans ((z_sn (fun h => absurd h.2 (by decide))).trans z_ss)) ?_
        show u_P L xs n d m_X12_goesBehind 96 [(1, .int (f_X12_here S)), (0, .ref 100)] [.int (((g_X12_joins (Int32.ofInt 1) S) 99 9) - (Int32.ofInt 1)), .ref 100] (z_s (z_s (z_s (g_X12_joins (Int32.ofInt 1) S) 99 9 (((g_X12_joins (Int32.ofInt 1) S) 99 9) - (Int32.ofInt 1))) 99 8 (((g_X12_joins (Int32.ofInt 1) S) 99 8) - (Int32.ofInt 1))) 99 3 (((g_X12_joins (Int32.ofInt 1) S) 99 3) + (Int32.ofInt 1))) R _
        refine u_if_ne rfl (fun h5 => ?_) (fun h5 => ?_)
        · show u_P L xs n d m_X12_goesBehind 103 [(1, .int (f_X12_here S)), (0, .ref 100)] [.ref 100] (z_s (z_s (z_s (g_X12_joins (Int32.ofInt 1) S) 99 9 (((g_X12_joins (Int32.ofInt 1) S) 99 9) - (Int32.ofInt 1))) 99 8 (((g_X12_joins (Int32.ofInt 1) S) 99 8) - (Int32.ofInt 1))) 99 3 (((g_X12_joins (Int32.ofInt 1) S) 99 3) + (Int32.ofInt 1))) R _
          refine u_st rfl (fun _ => rfl) ?_
          show u_P L xs n d m_X12_goesBehind 104 [(1, .int (f_X12_here S)), (0, .ref 100)] [.int (Int32.ofInt 0), .ref 100] (z_s (z_s (z_s (g_X12_joins (Int32.ofInt 1) S) 99 9 (((g_X12_joins (Int32.ofInt 1) S) 99 9) - (Int32.ofInt 1))) 99 8 (((g_X12_joins (Int32.ofInt 1) S) 99 8) - (Int32.ofInt 1))) 99 3 (((g_X12_joins (Int32.ofInt 1) S) 99 3) + (Int32.ofInt 1))) R _
          refine u_put rfl v_tyM rfl ?_
          refine u_st rfl (fun _ => rfl) ?_
          show u_P L xs n d m_X12_goesBehind 108 [(1, .int (f_X12_here S)), (0, .ref 100)] [.ref 100] (z_s (z_s (z_s (z_s (g_X12_joins (Int32.ofInt 1) S) 99 9 (((g_X12_joins (Int32.ofInt 1) S) 99 9) - (Int32.ofInt 1))) 99 8 (((g_X12_joins (Int32.ofInt 1) S) 99 8) - (Int32.ofInt 1))) 99 3 (((g_X12_joins (Int32.ofInt 1) S) 99 3) + (Int32.ofInt 1))) 99 24 (Int32.ofInt 0)) R _
          refine u_getE (v := Int32.ofInt 0) rfl v_tyM rfl z_ss ?_
          show u_P L xs n d m_X12_goesBehind 111 [(1, .int (f_X12_here S)), (0, .ref 100)] [.int (Int32.ofInt 0)] (z_s (z_s (z_s (z_s (g_X12_joins (Int32.ofInt 1) S) 99 9 (((g_X12_joins (Int32.ofInt 1) S) 99 9) - (Int32.ofInt 1))) 99 8 (((g_X12_joins (Int32.ofInt 1) S) 99 8) - (Int32.ofInt 1))) 99 3 (((g_X12_joins (Int32.ofInt 1) S) 99 3) + (Int32.ofInt 1))) 99 24 (Int32.ofInt 0)) R _
          refine u_st rfl (fun _ => rfl) ?_
          refine u_st rfl (fun _ => rfl) ?_
          show u_P L xs n d m_X12_goesBehind 115 [(1, .int (f_X12_here S)), (0, .ref 100)] [.ref 100] (z_s (z_s (z_s (z_s (g_X12_joins (Int32.ofInt 1) S) 99 9 (((g_X12_joins (Int32.ofInt 1) S) 99 9) - (Int32.ofInt 1))) 99 8 (((g_X12_joins (Int32.ofInt 1) S) 99 8) - (Int32.ofInt 1))) 99 3 (((g_X12_joins (Int32.ofInt 1) S) 99 3) + (Int32.ofInt 1))) 99 24 (Int32.ofInt 0)) R _
          refine u_cv (rest := []) rfl (by decide) mt_X12_ends v_tyM rfl rfl rfl (Nat.le_of_ble_eq_true rfl) (Nat.le_of_ble_eq_true rfl) (Nat.le_of_ble_eq_true rfl) (fun d' => c_X12_ends L xs n d' (z_s (z_s (z_s (z_s (g_X12_joins (Int32.ofInt 1) S) 99 9 (((g_X12_joins (Int32.ofInt 1) S) 99 9) - (Int32.ofInt 1))) 99 8 (((g_X12_joins (Int32.ofInt 1) S) 99 8) - (Int32.ofInt 1))) 99 3 (((g_X12_joins (Int32.ofInt 1) S) 99 3) + (Int32.ofInt 1))) 99 24 (Int32.ofInt 0)) R) ?_
          rintro _ _ _ ⟨rfl, rfl, rfl⟩
          refine u_st rfl (fun _ => rfl) ?_
          show u_P L xs n d m_X12_goesBehind 119 [(1, .int (f_X12_here S)), (0, .ref 100)] [.int (Int32.ofInt 0)] (g_X12_ends (z_s (z_s (z_s (z_s (g_X12_joins (Int32.ofInt 1) S) 99 9 (((g_X12_joins (Int32.ofInt 1) S) 99 9) - (Int32.ofInt 1))) 99 8 (((g_X12_joins (Int32.ofInt 1) S) 99 8) - (Int32.ofInt 1))) 99 3 (((g_X12_joins (Int32.ofInt 1) S) 99 3) + (Int32.ofInt 1))) 99 24 (Int32.ofInt 0))) R _
          exact u_retb rfl rfl ⟨_, rfl, rfl, by rw [f_X12_goesBehind, if_neg h1, if_pos h3, if_pos h4, if_pos h5], by rw [g_X12_goesBehind, if_neg h1, if_pos h3, if_pos h4, if_pos h5]⟩
        · show u_P L xs n d m_X12_goesBehind 99 [(1, .int (f_X12_here S)), (0, .ref 100)] [.ref 100] (z_s (z_s (z_s (g_X12_joins (Int32.ofInt 1) S) 99 9 (((g_X12_joins (Int32.ofInt 1) S) 99 9) - (Int32.ofInt 1))) 99 8 (((g_X12_joins (Int32.ofInt 1) S) 99 8) - (Int32.ofInt 1))) 99 3 (((g_X12_joins (Int32.ofInt 1) S) 99 3) + (Int32.ofInt 1))) R _
          refine u_st rfl (fun _ => rfl) ?_
          refine u_st rfl (fun _ => rfl) ?_
          show u_P L xs n d m_X12_goesBehind 104 [(1, .int (f_X12_here S)), (0, .ref 100)] [.int (Int32.ofInt 1), .ref 100] (z_s (z_s (z_s (g_X12_joins (Int32.ofInt 1) S) 99 9 (((g_X12_joins (Int32.ofInt 1) S) 99 9) - (Int32.ofInt 1))) 99 8 (((g_X12_joins (Int32.ofInt 1) S) 99 8) - (Int32.ofInt 1))) 99 3 (((g_X12_joins (Int32.ofInt 1) S) 99 3) + (Int32.ofInt 1))) R _
          refine u_put rfl v_tyM rfl ?_
          refine u_st rfl (fun _ => rfl) ?_
          show u_P L xs n d m_X12_goesBehind 108 [(1, .int (f_X12_here S)), (0, .ref 100)] [.ref 100] (z_s (z_s (z_s (z_s (g_X12_joins (Int32.ofInt 1) S) 99 9 (((g_X12_joins (Int32.ofInt 1) S) 99 9) - (Int32.ofInt 1))) 99 8 (((g_X12_joins (Int32.ofInt 1) S) 99 8) - (Int32.ofInt 1))) 99 3 (((g_X12_joins (Int32.ofInt 1) S) 99 3) + (Int32.ofInt 1))) 99 24 (Int32.ofInt 1)) R _
          refine u_getE (v := Int32.ofInt 1) rfl v_tyM rfl z_ss ?_
          show u_P L xs n d m_X12_goesBehind 111 [(1, .int (f_X12_here S)), (0, .ref 100)] [.int (Int32.ofInt 1)] (z_s (z_s (z_s (z_s (g_X12_joins (Int32.ofInt 1) S) 99 9 (((g_X12_joins (Int32.ofInt 1) S) 99 9) - (Int32.ofInt 1))) 99 8 (((g_X12_joins (Int32.ofInt 1) S) 99 8) - (Int32.ofInt 1))) 99 3 (((g_X12_joins (Int32.ofInt 1) S) 99 3) + (Int32.ofInt 1))) 99 24 (Int32.ofInt 1)) R _
          refine u_st rfl (fun _ => rfl) ?_
          refine u_st rfl (fun _ => rfl) ?_
          show u_P L xs n d m_X12_goesBehind 119 [(1, .int (f_X12_here S)), (0, .ref 100)] [.int (Int32.ofInt 0)] (z_s (z_s (z_s (z_s (g_X12_joins (Int32.ofInt 1) S) 99 9 (((g_X12_joins (Int32.ofInt 1) S) 99 9) - (Int32.ofInt 1))) 99 8 (((g_X12_joins (Int32.ofInt 1) S) 99 8) - (Int32.ofInt 1))) 99 3 (((g_X12_joins (Int32.ofInt 1) S) 99 3) + (Int32.ofInt 1))) 99 24 (Int32.ofInt 1)) R _
          exact u_retb rfl rfl ⟨_, rfl, rfl, by rw [f_X12_goesBehind, if_neg h1, if_pos h3, if_pos h4, if_neg h5], by rw [g_X12_goesBehind, if_neg h1, if_pos h3, if_pos h4, if_neg h5]⟩
      · show u_P L xs n d m_X12_goesBehind 45 [(1, .int (f_X12_here S)), (0, .ref 100)] [] S R _
        refine u_st rfl (fun _ => rfl) ?_
        refine u_st rfl (fun _ => rfl) ?_
        refine u_st rfl (fun _ => rfl) ?_
        show u_P L xs n d m_X12_goesBehind 48 [(1, .int (f_X12_here S)), (0, .ref 100)] [.ref 100, .int (Int32.ofInt 1), .ref 100] S R _
        refine u_getE (v := S 99 3) rfl v_tyM rfl rfl ?_
        show u_P L xs n d m_X12_goesBehind 51 [(1, .int (f_X12_here S)), (0, .ref 100)] [.int (S 99 3), .int (Int32.ofInt 1), .ref 100] S R _
        refine u_cv (rest := []) rfl (by decide) mt_X12_wrongs v_tyM rfl rfl rfl (Nat.le_of_ble_eq_true rfl) (Nat.le_of_ble_eq_true rfl) (Nat.le_of_ble_eq_true rfl) (fun d' => c_X12_wrongs L xs n d' (Int32.ofInt 1) (S 99 3) S R) ?_
        rintro _ _ _ ⟨rfl, rfl, rfl⟩
        refine u_st rfl (fun _ => rfl) ?_
        show u_P L xs n d m_X12_goesBehind 55 [(1, .int (f_X12_here S)), (0, .ref 100)] [.int (Int32.ofInt 0)] (g_X12_wrongs (Int32.ofInt 1) (S 99 3) S) R _
        exact u_retb rfl rfl ⟨_, rfl, rfl, by rw [f_X12_goesBehind, if_neg h1, if_pos h3, if_neg h4], by rw [g_X12_goesBehind, if_neg h1, if_pos h3, if_neg h4]⟩
    · show u_P L xs n d m_X12_goesBehind 17 [(1, .int (f_X12_here S)), (0, .ref 100)] [] S R _
      refine u_st rfl (fun _ => rfl) ?_
      refine u_st rfl (fun _ => rfl) ?_
      refine u_st rfl (fun _ => rfl) ?_
      show u_P L xs n d m_X12_goesBehind 21 [(1, .int (f_X12_here S)), (0, .ref 100)] [.int (Int32.ofInt 124), .int (f_X12_here S), .ref 100] S R _
      refine u_ic_ne rfl (fun h6 => absurd (Classical.not_not.mp h3) h6) (fun _ => ?_)
      show u_P L xs n d m_X12_goesBehind 24 [(1, .int (f_X12_here S)), (0, .ref 100)] [.ref 100] S R _
      refine u_st rfl (fun _ => rfl) ?_
      refine u_st rfl (fun _ => rfl) ?_
      show u_P L xs n d m_X12_goesBehind 29 [(1, .int (f_X12_here S)), (0, .ref 100)] [.int (Int32.ofInt 1), .ref 100] S R _
      refine u_cv (rest := []) rfl (by decide) mt_X12_joins v_tyM rfl rfl rfl (Nat.le_of_ble_eq_true rfl) (Nat.le_of_ble_eq_true rfl) (Nat.le_of_ble_eq_true rfl) (fun d' => c_X12_joins L xs n d' (Int32.ofInt 1) S R) ?_
      rintro _ _ _ ⟨rfl, rfl, rfl⟩
      refine u_st rfl (fun _ => rfl) ?_
      refine u_st rfl (fun _ => rfl) ?_
      show u_P L xs n d m_X12_goesBehind 34 [(1, .int (f_X12_here S)), (0, .ref 100)] [.int (f_X12_here S), .ref 100] (g_X12_joins (Int32.ofInt 1) S) R _
      refine u_cv (rest := []) rfl (by decide) mt_X12_puts v_tyM rfl rfl rfl (Nat.le_of_ble_eq_true rfl) (Nat.le_of_ble_eq_true rfl) (Nat.le_of_ble_eq_true rfl) (fun d' => c_X12_puts L xs n d' (f_X12_here S) (g_X12_joins (Int32.ofInt 1) S) R) ?_
      rintro _ _ _ ⟨rfl, rfl, rfl⟩
      refine u_st rfl (fun _ => rfl) ?_
      show u_P L xs n d m_X12_goesBehind 38 [(1, .int (f_X12_here S)), (0, .ref 100)] [.int (Int32.ofInt 1)] (g_X12_puts (f_X12_here S) (g_X12_joins (Int32.ofInt 1) S)) R _
      exact u_retb rfl rfl ⟨_, rfl, rfl, by rw [f_X12_goesBehind, if_neg h1, if_neg h3], by rw [g_X12_goesBehind, if_neg h1, if_neg h3]⟩
noncomputable def D_X12_condition_37  (H37 : Int32 → v_Sf → Prop) (K : v_Sf → Prop) (x1 : Int32) (S : v_Sf) : Prop := (((f_X12_isGood S) = 0 → K S) ∧ (¬ ((f_X12_isGood S) = 0) → (((¬ (S 99 24) = 0) → K S) ∧ (¬ (¬ (S 99 24) = 0) → ((x1 = 0 → H37 (f_X12_goesBehind S) (g_X12_goesBehind S)) ∧ (¬ (x1 = 0) → (((f_X12_isGood (g_X12_pieceOfC S)) = 0 → H37 x1 (g_X12_pieceOfC S)) ∧ (¬ ((f_X12_isGood (g_X12_pieceOfC S)) = 0) → H37 (f_X12_goesBehind (g_X12_pieceOfC S)) (g_X12_goesBehind (g_X12_pieceOfC S))))))))))
noncomputable def D_X12_condition  (H37 : Int32 → v_Sf → Prop) (K : v_Sf → Prop) (S : v_Sf) : Prop := (((f_X12_here (z_s S 99 24 (Int32.ofInt 0))) = (Int32.ofInt 40) → (((¬ (f_X12_isGood (z_s S 99 24 (Int32.ofInt 0))) = 0) → H37 (Int32.ofInt 1) (g_X12_opens (z_s S 99 24 (Int32.ofInt 0)))) ∧ (¬ (¬ (f_X12_isGood (z_s S 99 24 (Int32.ofInt 0))) = 0) → K (z_s S 99 24 (Int32.ofInt 0))))) ∧ (¬ ((f_X12_here (z_s S 99 24 (Int32.ofInt 0))) = (Int32.ofInt 40)) → (((¬ (f_X12_isGood (g_X12_wrongs (Int32.ofInt 1) (S 99 3) (z_s S 99 24 (Int32.ofInt 0)))) = 0) → H37 (Int32.ofInt 1) (g_X12_opens (g_X12_wrongs (Int32.ofInt 1) (S 99 3) (z_s S 99 24 (Int32.ofInt 0))))) ∧ (¬ (¬ (f_X12_isGood (g_X12_wrongs (Int32.ofInt 1) (S 99 3) (z_s S 99 24 (Int32.ofInt 0)))) = 0) → K (g_X12_wrongs (Int32.ofInt 1) (S 99 3) (z_s S 99 24 (Int32.ofInt 0)))))))
set_option maxRecDepth 4000 in
theorem hd_X12_condition (L : Nat) (xs : Nat → Int32) {R : v_Rf}  (H37 : Int32 → v_Sf → Prop) (K : v_Sf → Prop) (k37 : ∀ (x1 : Int32) (S : v_Sf), H37 x1 S → D_X12_condition_37 H37 K x1 S) : ∀ n, (∀ (d : Nat) (x1 : Int32) (S : v_Sf), H37 x1 S → u_P L xs n d m_X12_condition 37 [(0, .ref 100), (1, .int x1)] [] S R (z_V R K)) := by
  intro n
  induction n using Nat.strongRecOn with
  | ind n ih =>
    intro d x1 S hD
    have hD := k37 x1 S hD
    unfold D_X12_condition_37 at hD
    show u_P L xs n d m_X12_condition 37 [(0, .ref 100), (1, .int x1)] [] S R _
    refine u_st1 rfl (fun _ => rfl) (fun m hm => ?_)
    show u_P L xs m d m_X12_condition 38 [(0, .ref 100), (1, .int x1)] [.ref 100] S R _
    refine u_cv (rest := []) rfl (by decide) mt_X12_isGood v_tyM rfl rfl rfl (Nat.le_of_ble_eq_true rfl) (Nat.le_of_ble_eq_true rfl) (Nat.le_of_ble_eq_true rfl) (fun d' => c_X12_isGood L xs m d' S R) ?_
    rintro _ _ _ ⟨_, rfl, rfl, rfl, rfl⟩
    show u_P L xs m d m_X12_condition 41 [(0, .ref 100), (1, .int x1)] [.int (f_X12_isGood S)] S R _
    refine u_if_eq rfl (fun h1 => ?_) (fun h1 => ?_)
    · have hD := hD.1 h1
      show u_P L xs m d m_X12_condition 74 [(0, .ref 100), (1, .int x1)] [] S R _
      exact u_ret rfl rfl ⟨rfl, rfl, hD⟩
    · have hD := hD.2 h1
      show u_P L xs m d m_X12_condition 44 [(0, .ref 100), (1, .int x1)] [] S R _
      refine u_st rfl (fun _ => rfl) ?_
      show u_P L xs m d m_X12_condition 45 [(0, .ref 100), (1, .int x1)] [.ref 100] S R _
      refine u_getE (v := S 99 24) rfl v_tyM rfl rfl ?_
      show u_P L xs m d m_X12_condition 48 [(0, .ref 100), (1, .int x1)] [.int (S 99 24)] S R _
      refine u_if_ne rfl (fun h2 => ?_) (fun h2 => ?_)
      · have hD := hD.1 h2
        show u_P L xs m d m_X12_condition 74 [(0, .ref 100), (1, .int x1)] [] S R _
        exact u_ret rfl rfl ⟨rfl, rfl, hD⟩
      · have hD := hD.2 h2
        show u_P L xs m d m_X12_condition 51 [(0, .ref 100), (1, .int x1)] [] S R _
        refine u_st rfl (fun _ => rfl) ?_
        show u_P L xs m d m_X12_condition 52 [(0, .ref 100), (1, .int x1)] [.int x1] S R _
        refine u_if_eq rfl (fun h3 => ?_) (fun h3 => ?_)
        · have hD := hD.1 h3
          show u_P L xs m d m_X12_condition 59 [(0, .ref 100), (1, .int x1)] [] S R _
          refine u_st rfl (fun _ => rfl) ?_
          show u_P L xs m d m_X12_condition 60 [(0, .ref 100), (1, .int x1)] [.ref 100] S R _
          refine u_cv (rest := []) rfl (by decide) mt_X12_isGood v_tyM rfl rfl rfl (Nat.le_of_ble_eq_true rfl) (Nat.le_of_ble_eq_true rfl) (Nat.le_of_ble_eq_true rfl) (fun d' => c_X12_isGood L xs m d' S R) ?_
          rintro _ _ _ ⟨_, rfl, rfl, rfl, rfl⟩
          show u_P L xs m d m_X12_condition 63 [(0, .ref 100), (1, .int x1)] [.int (f_X12_isGood S)] S R _
          refine u_if_eq rfl (fun h4 => absurd h4 h1) (fun _ => ?_)
          show u_P L xs m d m_X12_condition 66 [(0, .ref 100), (1, .int x1)] [] S R _
          refine u_st rfl (fun _ => rfl) ?_
          show u_P L xs m d m_X12_condition 67 [(0, .ref 100), (1, .int x1)] [.ref 100] S R _
          refine u_cv (rest := []) rfl (by decide) mt_X12_goesBehind v_tyM rfl rfl rfl (Nat.le_of_ble_eq_true rfl) (Nat.le_of_ble_eq_true rfl) (Nat.le_of_ble_eq_true rfl) (fun d' => c_X12_goesBehind L xs m d' S R) ?_
          rintro _ _ _ ⟨_, rfl, rfl, rfl, rfl⟩
          refine u_st rfl (fun _ => rfl) ?_
          refine u_st rfl (fun _ => rfl) ?_
          refine u_lc (b := [(0, .ref 100), (1, .int (f_X12_goesBehind S))]) (show ([1, 0] : List Nat).Nodup by decide) (show ([0, 1] : List Nat).Nodup by decide) (fun i => match i with | 0 => rfl | 1 => rfl | _ + 2 => rfl) ?_
          exact (ih m hm) d (f_X12_goesBehind S) (g_X12_goesBehind S) hD
        · have hD := hD.2 h3
          show u_P L xs m d m_X12_condition 55 [(0, .ref 100), (1, .int x1)] [] S R _
          refine u_st rfl (fun _ => rfl) ?_
          show u_P L xs m d m_X12_condition 56 [(0, .ref 100), (1, .int x1)] [.ref 100] S R _
          refine u_cv (rest := []) rfl (by decide) mt_X12_pieceOfC v_tyM rfl rfl rfl (Nat.le_of_ble_eq_true rfl) (Nat.le_of_ble_eq_true rfl) (Nat.le_of_ble_eq_true rfl) (fun d' => c_X12_pieceOfC L xs m d' S R) ?_
          rintro _ _ _ ⟨rfl, rfl, rfl⟩
          refine u_st rfl (fun _ => rfl) ?_
          show u_P L xs m d m_X12_condition 60 [(0, .ref 100), (1, .int x1)] [.ref 100] (g_X12_pieceOfC S) R _
          refine u_cv (rest := []) rfl (by decide) mt_X12_isGood v_tyM rfl rfl rfl (Nat.le_of_ble_eq_true rfl) (Nat.le_of_ble_eq_true rfl) (Nat.le_of_ble_eq_true rfl) (fun d' => c_X12_isGood L xs m d' (g_X12_pieceOfC S) R) ?_
          rintro _ _ _ ⟨_, rfl, rfl, rfl, rfl⟩
          show u_P L xs m d m_X12_condition 63 [(0, .ref 100), (1, .int x1)] [.int (f_X12_isGood (g_X12_pieceOfC S))] (g_X12_pieceOfC S) R _
          refine u_if_eq rfl (fun h5 => ?_) (fun h5 => ?_)
          · have hD := hD.1 h5
            exact (ih m hm) d x1 (g_X12_pieceOfC S) hD
          · have hD := hD.2 h5
            show u_P L xs m d m_X12_condition 66 [(0, .ref 100), (1, .int x1)] [] (g_X12_pieceOfC S) R _
            refine u_st rfl (fun _ => rfl) ?_
            show u_P L xs m d m_X12_condition 67 [(0, .ref 100), (1, .int x1)] [.ref 100] (g_X12_pieceOfC S) R _
            refine u_cv (rest := []) rfl (by decide) mt_X12_goesBehind v_tyM rfl rfl rfl (Nat.le_of_ble_eq_true rfl) (Nat.le_of_ble_eq_true rfl) (Nat.le_of_ble_eq_true rfl) (fun d' => c_X12_goesBehind L xs m d' (g_X12_pieceOfC S) R) ?_
            rintro _ _ _ ⟨_, rfl, rfl, rfl, rfl⟩
            refine u_st rfl (fun _ => rfl) ?_
            refine u_st rfl (fun _ => rfl) ?_
            refine u_lc (b := [(0, .ref 100), (1, .int (f_X12_goesBehind (g_X12_pieceOfC S)))]) (show ([1, 0] : List Nat).Nodup by decide) (show ([0, 1] : List Nat).Nodup by decide) (fun i => match i with | 0 => rfl | 1 => rfl | _ + 2 => rfl) ?_
            exact (ih m hm) d (f_X12_goesBehind (g_X12_pieceOfC S)) (g_X12_goesBehind (g_X12_pieceOfC S)) hD
set_option maxRecDepth 4000 in
theorem w_X12_condition (L : Nat) (xs : Nat → Int32) {R : v_Rf}  (H37 : Int32 → v_Sf → Prop) (K : v_Sf → Prop) (k37 : ∀ (x1 : Int32) (S : v_Sf), H37 x1 S → D_X12_condition_37 H37 K x1 S) (n d : Nat) (S : v_Sf) (hD : D_X12_condition H37 K S) : u_P L xs n d m_X12_condition 0 (lv_args 0 [.ref 100]) [] S R (z_V R K) := by
  unfold D_X12_condition at hD
  show u_P L xs n d m_X12_condition 0 [(0, .ref 100)] [] S R _
  refine u_st rfl (fun _ => rfl) ?_
  refine u_st rfl (fun _ => rfl) ?_
  show u_P L xs n d m_X12_condition 2 [(0, .ref 100)] [.int (Int32.ofInt 0), .ref 100] S R _
  refine u_put rfl v_tyM rfl ?_
  refine u_st rfl (fun _ => rfl) ?_
  show u_P L xs n d m_X12_condition 6 [(0, .ref 100)] [.ref 100] (z_s S 99 24 (Int32.ofInt 0)) R _
  refine u_cv (rest := []) rfl (by decide) mt_X12_here v_tyM rfl rfl rfl (Nat.le_of_ble_eq_true rfl) (Nat.le_of_ble_eq_true rfl) (Nat.le_of_ble_eq_true rfl) (fun d' => c_X12_here L xs n d' (z_s S 99 24 (Int32.ofInt 0)) R) ?_
  rintro _ _ _ ⟨_, rfl, rfl, rfl, rfl⟩
  refine u_st rfl (fun _ => rfl) ?_
  show u_P L xs n d m_X12_condition 11 [(0, .ref 100)] [.int (Int32.ofInt 40), .int (f_X12_here (z_s S 99 24 (Int32.ofInt 0)))] (z_s S 99 24 (Int32.ofInt 0)) R _
  refine u_ic_eq rfl (fun h1 => ?_) (fun h1 => ?_)
  · have hD := hD.1 h1
    show u_P L xs n d m_X12_condition 23 [(0, .ref 100)] [] (z_s S 99 24 (Int32.ofInt 0)) R _
    refine u_st rfl (fun _ => rfl) ?_
    show u_P L xs n d m_X12_condition 24 [(0, .ref 100)] [.ref 100] (z_s S 99 24 (Int32.ofInt 0)) R _
    refine u_cv (rest := []) rfl (by decide) mt_X12_isGood v_tyM rfl rfl rfl (Nat.le_of_ble_eq_true rfl) (Nat.le_of_ble_eq_true rfl) (Nat.le_of_ble_eq_true rfl) (fun d' => c_X12_isGood L xs n d' (z_s S 99 24 (Int32.ofInt 0)) R) ?_
    rintro _ _ _ ⟨_, rfl, rfl, rfl, rfl⟩
    show u_P L xs n d m_X12_condition 27 [(0, .ref 100)] [.int (f_X12_isGood (z_s S 99 24 (Int32.ofInt 0)))] (z_s S 99 24 (Int32.ofInt 0)) R _
    refine u_if_ne rfl (fun h2 => ?_) (fun h2 => ?_)
    · have hD := hD.1 h2
      show u_P L xs n d m_X12_condition 31 [(0, .ref 100)] [] (z_s S 99 24 (Int32.ofInt 0)) R _
      refine u_st rfl (fun _ => rfl) ?_
      show u_P L xs n d m_X12_condition 32 [(0, .ref 100)] [.ref 100] (z_s S 99 24 (Int32.ofInt 0)) R _
      refine u_cv (rest := []) rfl (by decide) mt_X12_opens v_tyM rfl rfl rfl (Nat.le_of_ble_eq_true rfl) (Nat.le_of_ble_eq_true rfl) (Nat.le_of_ble_eq_true rfl) (fun d' => c_X12_opens L xs n d' (z_s S 99 24 (Int32.ofInt 0)) R) ?_
      rintro _ _ _ ⟨rfl, rfl, rfl⟩
      refine u_st rfl (fun _ => rfl) ?_
      refine u_st rfl (fun _ => rfl) ?_
      refine u_lc (b := [(0, .ref 100), (1, .int (Int32.ofInt 1))]) (show ([1, 0] : List Nat).Nodup by decide) (show ([0, 1] : List Nat).Nodup by decide) (fun i => match i with | 0 => rfl | 1 => rfl | _ + 2 => rfl) ?_
      exact (hd_X12_condition L xs H37 K k37 n) d (Int32.ofInt 1) (g_X12_opens (z_s S 99 24 (Int32.ofInt 0))) hD
    · have hD := hD.2 h2
      show u_P L xs n d m_X12_condition 30 [(0, .ref 100)] [] (z_s S 99 24 (Int32.ofInt 0)) R _
      exact u_ret rfl rfl ⟨rfl, rfl, hD⟩
  · have hD := hD.2 h1
    show u_P L xs n d m_X12_condition 14 [(0, .ref 100)] [] (z_s S 99 24 (Int32.ofInt 0)) R _
    refine u_st rfl (fun _ => rfl) ?_
    refine u_st rfl (fun _ => rfl) ?_
    refine u_st rfl (fun _ => rfl) ?_
    show u_P L xs n d m_X12_condition 17 [(0, .ref 100)] [.ref 100, .int (Int32.ofInt 1), .ref 100] (z_s S 99 24 (Int32.ofInt 0)) R _
    refine u_getE (v := S 99 3) rfl v_tyM rfl (z_sn (fun h => absurd h.2 (by decide))) ?_
    show u_P L xs n d m_X12_condition 20 [(0, .ref 100)] [.int (S 99 3), .int (Int32.ofInt 1), .ref 100] (z_s S 99 24 (Int32.ofInt 0)) R _
    refine u_cv (rest := []) rfl (by decide) mt_X12_wrongs v_tyM rfl rfl rfl (Nat.le_of_ble_eq_true rfl) (Nat.le_of_ble_eq_true rfl) (Nat.le_of_ble_eq_true rfl) (fun d' => c_X12_wrongs L xs n d' (Int32.ofInt 1) (S 99 3) (z_s S 99 24 (Int32.ofInt 0)) R) ?_
    rintro _ _ _ ⟨rfl, rfl, rfl⟩
    refine u_st rfl (fun _ => rfl) ?_
    show u_P L xs n d m_X12_condition 24 [(0, .ref 100)] [.ref 100] (g_X12_wrongs (Int32.ofInt 1) (S 99 3) (z_s S 99 24 (Int32.ofInt 0))) R _
    refine u_cv (rest := []) rfl (by decide) mt_X12_isGood v_tyM rfl rfl rfl (Nat.le_of_ble_eq_true rfl) (Nat.le_of_ble_eq_true rfl) (Nat.le_of_ble_eq_true rfl) (fun d' => c_X12_isGood L xs n d' (g_X12_wrongs (Int32.ofInt 1) (S 99 3) (z_s S 99 24 (Int32.ofInt 0))) R) ?_
    rintro _ _ _ ⟨_, rfl, rfl, rfl, rfl⟩
    show u_P L xs n d m_X12_condition 27 [(0, .ref 100)] [.int (f_X12_isGood (g_X12_wrongs (Int32.ofInt 1) (S 99 3) (z_s S 99 24 (Int32.ofInt 0))))] (g_X12_wrongs (Int32.ofInt 1) (S 99 3) (z_s S 99 24 (Int32.ofInt 0))) R _
    refine u_if_ne rfl (fun h3 => ?_) (fun h3 => ?_)
    · have hD := hD.1 h3
      show u_P L xs n d m_X12_condition 31 [(0, .ref 100)] [] (g_X12_wrongs (Int32.ofInt 1) (S 99 3) (z_s S 99 24 (Int32.ofInt 0))) R _
      refine u_st rfl (fun _ => rfl) ?_
      show u_P L xs n d m_X12_condition 32 [(0, .ref 100)] [.ref 100] (g_X12_wrongs (Int32.ofInt 1) (S 99 3) (z_s S 99 24 (Int32.ofInt 0))) R _
      refine u_cv (rest := []) rfl (by decide) mt_X12_opens v_tyM rfl rfl rfl (Nat.le_of_ble_eq_true rfl) (Nat.le_of_ble_eq_true rfl) (Nat.le_of_ble_eq_true rfl) (fun d' => c_X12_opens L xs n d' (g_X12_wrongs (Int32.ofInt 1) (S 99 3) (z_s S 99 24 (Int32.ofInt 0))) R) ?_
      rintro _ _ _ ⟨rfl, rfl, rfl⟩
      refine u_st rfl (fun _ => rfl) ?_
      refine u_st rfl (fun _ => rfl) ?_
      refine u_lc (b := [(0, .ref 100), (1, .int (Int32.ofInt 1))]) (show ([1, 0] : List Nat).Nodup by decide) (show ([0, 1] : List Nat).Nodup by decide) (fun i => match i with | 0 => rfl | 1 => rfl | _ + 2 => rfl) ?_
      exact (hd_X12_condition L xs H37 K k37 n) d (Int32.ofInt 1) (g_X12_opens (g_X12_wrongs (Int32.ofInt 1) (S 99 3) (z_s S 99 24 (Int32.ofInt 0)))) hD
    · have hD := hD.2 h3
      show u_P L xs n d m_X12_condition 30 [(0, .ref 100)] [] (g_X12_wrongs (Int32.ofInt 1) (S 99 3) (z_s S 99 24 (Int32.ofInt 0))) R _
      exact u_ret rfl rfl ⟨rfl, rfl, hD⟩
noncomputable def s_X12_condition_37 (x1 : Int32) (S : v_Sf) : (Int32 × v_Sf) ⊕ (v_Sf) := (if (f_X12_isGood S) = 0 then (Sum.inr (S)) else (if ¬ (S 99 24) = 0 then (Sum.inr (S)) else (if x1 = 0 then (Sum.inl ((f_X12_goesBehind S), (g_X12_goesBehind S))) else (if (f_X12_isGood (g_X12_pieceOfC S)) = 0 then (Sum.inl (x1, (g_X12_pieceOfC S))) else (Sum.inl ((f_X12_goesBehind (g_X12_pieceOfC S)), (g_X12_goesBehind (g_X12_pieceOfC S))))))))
noncomputable def F_X12_condition  (S : v_Sf) : v_Sf := (if (f_X12_here (z_s S 99 24 (Int32.ofInt 0))) = (Int32.ofInt 40) then (if ¬ (f_X12_isGood (z_s S 99 24 (Int32.ofInt 0))) = 0 then z_lim (fun p => s_X12_condition_37 p.1 p.2) S ((Int32.ofInt 1), (g_X12_opens (z_s S 99 24 (Int32.ofInt 0)))) else z_s S 99 24 (Int32.ofInt 0)) else (if ¬ (f_X12_isGood (g_X12_wrongs (Int32.ofInt 1) (S 99 3) (z_s S 99 24 (Int32.ofInt 0)))) = 0 then z_lim (fun p => s_X12_condition_37 p.1 p.2) S ((Int32.ofInt 1), (g_X12_opens (g_X12_wrongs (Int32.ofInt 1) (S 99 3) (z_s S 99 24 (Int32.ofInt 0))))) else g_X12_wrongs (Int32.ofInt 1) (S 99 3) (z_s S 99 24 (Int32.ofInt 0))))
noncomputable def g_X12_condition  (S : v_Sf) : v_Sf := F_X12_condition  S
theorem c_X12_condition (L : Nat) (xs : Nat → Int32) (n d : Nat)  (S : v_Sf) (R : v_Rf) : u_P L xs n d m_X12_condition 0 (lv_args 0 [.ref 100]) [] S R (z_V R (fun S1 => g_X12_condition  S = S1)) := by
  refine w_X12_condition L xs  (fun y1 T => (∀ N out, z_itr (fun p => s_X12_condition_37 p.1 p.2) N (y1, T) = some out → F_X12_condition  S = out)) (fun S1 => g_X12_condition  S = S1) ?_ n d S ?_
  · rintro x1 S1 e
    unfold D_X12_condition_37
    refine ⟨fun q1 => ?_, fun q1 => ?_⟩
    · have e := (e 1 _ (z_itr_r (by show s_X12_condition_37 x1 S1 = _; rw [s_X12_condition_37, if_pos q1]))).symm
      exact e.symm
    · refine ⟨fun q2 => ?_, fun q2 => ?_⟩
      · have e := (e 1 _ (z_itr_r (by show s_X12_condition_37 x1 S1 = _; rw [s_X12_condition_37, if_neg q1, if_pos q2]))).symm
        exact e.symm
      · refine ⟨fun q3 => ?_, fun q3 => ?_⟩
        · exact fun N out h => e (N + 1) out ((z_itr_l (by show s_X12_condition_37 x1 S1 = _; rw [s_X12_condition_37, if_neg q1, if_neg q2, if_pos q3])).trans h)
        · refine ⟨fun q4 => ?_, fun q4 => ?_⟩
          · exact fun N out h => e (N + 1) out ((z_itr_l (by show s_X12_condition_37 x1 S1 = _; rw [s_X12_condition_37, if_neg q1, if_neg q2, if_neg q3, if_pos q4])).trans h)
          · exact fun N out h => e (N + 1) out ((z_itr_l (by show s_X12_condition_37 x1 S1 = _; rw [s_X12_condition_37, if_neg q1, if_neg q2, if_neg q3, if_neg q4])).trans h)
  · unfold D_X12_condition
    refine ⟨fun q5 => ?_, fun q5 => ?_⟩
    · refine ⟨fun q6 => ?_, fun q6 => ?_⟩
      · have e : z_lim (fun p => s_X12_condition_37 p.1 p.2) S ((Int32.ofInt 1), (g_X12_opens (z_s S 99 24 (Int32.ofInt 0)))) = F_X12_condition  S := by rw [F_X12_condition, if_pos q5, if_pos q6]
        exact fun N out h => e.symm.trans (z_lim_eq h)
      · have e : z_s S 99 24 (Int32.ofInt 0) = F_X12_condition  S := by rw [F_X12_condition, if_pos q5, if_neg q6]
        exact e.symm
    · refine ⟨fun q7 => ?_, fun q7 => ?_⟩
      · have e : z_lim (fun p => s_X12_condition_37 p.1 p.2) S ((Int32.ofInt 1), (g_X12_opens (g_X12_wrongs (Int32.ofInt 1) (S 99 3) (z_s S 99 24 (Int32.ofInt 0))))) = F_X12_condition  S := by rw [F_X12_condition, if_neg q5, if_pos q7]
        exact fun N out h => e.symm.trans (z_lim_eq h)
      · have e : g_X12_wrongs (Int32.ofInt 1) (S 99 3) (z_s S 99 24 (Int32.ofInt 0)) = F_X12_condition  S := by rw [F_X12_condition, if_neg q5, if_neg q7]
        exact e.symm
end PrtS42p
section PrtS42q
/-! closings -/
theorem z_nlt {v : Int32} (h : v ≤ 0) : ¬ 0 < v := by
  intro h'
  have h1 := Int32.le_iff_toInt_le.mp h
  have h2 := Int32.lt_iff_toInt_lt.mp h'
  omega
theorem z_ltn {v : Int32} (h : ¬ v ≤ 0) : 0 < v := by
  have h1 : ¬ v.toInt ≤ (0 : Int32).toInt := fun q => h (Int32.le_iff_toInt_le.mpr q)
  exact Int32.lt_iff_toInt_lt.mpr (by omega)
/-- an answer, the references changed where it is above 0 -/
noncomputable def z_QR (R R2 : v_Rf) (K : Int32 → v_Sf → Prop) (r : Option Value) (S' : v_Sf) (R' : v_Rf) : Prop := ∃ v, some (.int v) = r ∧ (0 < v → R2 = R') ∧ (¬ 0 < v → R = R') ∧ K v S'
theorem z_dp {B : Int} {a : Int32} (hB : -2000000000 < B ∧ B < 2000000000) (h : a < Int32.ofInt B) : (a + Int32.ofInt 1).toInt = a.toInt + 1 ∧ a.toInt < B := by
  have h1 := Int32.lt_iff_toInt_lt.mp h
  rw [q_ofr (by omega) (by omega)] at h1
  have h3 := Int32.le_toInt a
  have e : a + Int32.ofInt 1 = Int32.ofInt (a.toInt + 1) := by rw [Int32.ofInt_add, Int32.ofInt_toInt]
  refine ⟨?_, h1⟩
  rw [e, q_ofr (by omega) (by omega)]
theorem z_dp6 {a : Int32} (h : ¬ Int32.ofInt 6 < a) : (a + Int32.ofInt 1).toInt = a.toInt + 1 ∧ a.toInt < 7 := by
  have h1 : ¬ (Int32.ofInt 6).toInt < a.toInt := fun q => h (Int32.lt_iff_toInt_lt.mpr q)
  have h2 : (Int32.ofInt 6).toInt = 6 := rfl
  have h3 := Int32.le_toInt a
  have e : a + Int32.ofInt 1 = Int32.ofInt (a.toInt + 1) := by rw [Int32.ofInt_add, Int32.ofInt_toInt]
  refine ⟨?_, by omega⟩
  rw [e, q_ofr (by omega) (by omega)]
noncomputable def g_sendN : Nat → Int32 → Int32 → Int32 → v_Sf → v_Sf
  | 0 => g_sendFromF (fun _ _ _ S => S)
  | f + 1 => g_sendFromF (g_sendN f)
theorem c_sendN (L : Nat) (xs : Nat → Int32) (R : v_Rf) : ∀ (f n d : Nat) (i g w : Int32) (S : v_Sf), 7 ≤ i.toInt + f → u_P L xs n d m_X10_sendFrom 0 (lv_args 0 [.ref 87, .ref 2, .int i, .int g, .int w]) [] S R (z_V R (fun S1 => g_sendN f i g w S = S1)) := by
  intro f
  induction f with
  | zero =>
    intro n d i g w S h
    exact c_sendFromF L xs n d (fun _ => False) (fun _ _ _ S => S) (fun _ _ _ _ _ _ h => h.elim) i g w (fun q => by have := z_dp6 q; omega) S
  | succ f ih =>
    intro n d i g w S h
    exact c_sendFromF L xs n d (fun i => 7 ≤ i.toInt + f) (g_sendN f) (fun n d i g w S h => ih n d i g w S h) i g w (fun q => by have := z_dp6 q; show 7 ≤ (i + Int32.ofInt 1).toInt + f; omega) S
noncomputable def g_send (i g w : Int32) (S : v_Sf) : v_Sf := g_sendN 7 i g w S
theorem c_send (L : Nat) (xs : Nat → Int32) (n d : Nat) (i g w : Int32) (h : 0 ≤ i.toInt) (S : v_Sf) (R : v_Rf) : u_P L xs n d m_X10_sendFrom 0 (lv_args 0 [.ref 87, .ref 2, .int i, .int g, .int w]) [] S R (z_V R (fun S1 => g_send i g w S = S1)) := c_sendN L xs R 7 n d i g w S (by omega)
noncomputable abbrev m_X10_sendOff : g_M := (g_cn 10, yX10_sendOff, cX10_sendOff, 4, none, g_look2 ttX10_sendOff)
set_option maxRecDepth 20000 in
theorem mt_X10_sendOff : g_mt 104 = some m_X10_sendOff := rfl
noncomputable def D_X10_sendOff_29  (H29 : Int32 → v_Sf → Prop) (K : v_Sf → Prop) (x3 : Int32) (S : v_Sf) : Prop := ((x3 < 0 → K (g_send (Int32.ofInt 0) (Int32.ofInt 0) (Int32.ofInt 0) (z_s (z_s (g_fill89 (Int32.ofInt 0) S) 86 9 (Int32.ofInt (-1))) 86 10 (Int32.ofInt (-1))))) ∧ (¬ (x3 < 0) → (0 ≤ (x3 + (Int32.ofInt 1)).toInt → (x3 + (Int32.ofInt 1)).toInt < 7 → (0 ≤ x3.toInt → x3.toInt < 6 → (0 ≤ (S 90 x3.toInt.toNat).toInt → (S 90 x3.toInt.toNat).toInt < 12 → (0 ≤ x3.toInt → x3.toInt < 7 → H29 (x3 + (Int32.ofInt (-1))) (z_s S 91 x3.toInt.toNat ((S 91 ((x3 + (Int32.ofInt 1)).toInt.toNat)) + (S 2 ((S 90 x3.toInt.toNat).toInt.toNat))))))))))
noncomputable def D_X10_sendOff (a : Int32) (H29 : Int32 → v_Sf → Prop) (K : v_Sf → Prop) (S : v_Sf) : Prop := (0 ≤ (f_spread90 a S).toInt → (f_spread90 a S).toInt < 7 → H29 ((f_spread90 a S) - (Int32.ofInt 1)) (z_s (z_s (g_spread90 a S) 86 5 (f_spread90 a S)) 91 ((f_spread90 a S).toInt.toNat) (Int32.ofInt 0)))
set_option maxRecDepth 4000 in
theorem hd_X10_sendOff (L : Nat) (xs : Nat → Int32) {R : v_Rf} (a : Int32) (H29 : Int32 → v_Sf → Prop) (K : v_Sf → Prop) (k29 : ∀ (x3 : Int32) (S : v_Sf), H29 x3 S → D_X10_sendOff_29 H29 K x3 S) : ∀ n, (∀ (d : Nat) (j2 : Int32) (x3 : Int32) (S : v_Sf), H29 x3 S → u_P L xs n d m_X10_sendOff 29 [(0, .ref 87), (1, .ref 2), (2, .int j2), (3, .int x3)] [] S R (z_V R K)) := by
  intro n
  induction n using Nat.strongRecOn with
  | ind n ih =>
    intro d j2 x3 S hD
    have hD := k29 x3 S hD
    unfold D_X10_sendOff_29 at hD
    show u_P L xs n d m_X10_sendOff 29 [(0, .ref 87), (1, .ref 2), (2, .int j2), (3, .int x3)] [] S R _
    refine u_st1 rfl (fun _ => rfl) (fun m hm => ?_)
    show u_P L xs m d m_X10_sendOff 30 [(0, .ref 87), (1, .ref 2), (2, .int j2), (3, .int x3)] [.int x3] S R _
    refine u_if_lt rfl (fun h1 => ?_) (fun h1 => ?_)
    · have hD := hD.1 h1
      show u_P L xs m d m_X10_sendOff 65 [(0, .ref 87), (1, .ref 2), (2, .int j2), (3, .int x3)] [] S R _
      refine u_st rfl (fun _ => rfl) ?_
      show u_P L xs m d m_X10_sendOff 66 [(0, .ref 87), (1, .ref 2), (2, .int j2), (3, .int x3)] [.ref 87] S R _
      refine u_getr rfl rfl rfl ?_
      refine u_st rfl (fun _ => rfl) ?_
      show u_P L xs m d m_X10_sendOff 70 [(0, .ref 87), (1, .ref 2), (2, .int j2), (3, .int x3)] [.int (Int32.ofInt 0), .ref 90] S R _
      refine u_cs (ac := [.ref 90, .int (Int32.ofInt 0)]) (rest := []) rfl (by decide) mt_J7_fill_53178 (fun _ => rfl) (Nat.le_of_ble_eq_true rfl) (Nat.le_of_ble_eq_true rfl) (fun d' => c_fill89 L xs m d' (Int32.ofInt 0) S R) ?_
      rintro _ _ _ ⟨rfl, rfl, rfl⟩
      refine u_st rfl (fun _ => rfl) ?_
      refine u_st rfl (fun _ => rfl) ?_
      show u_P L xs m d m_X10_sendOff 75 [(0, .ref 87), (1, .ref 2), (2, .int j2), (3, .int x3)] [.int (Int32.ofInt (-1)), .ref 87] (g_fill89 (Int32.ofInt 0) S) R _
      refine u_put rfl rfl rfl ?_
      refine u_st rfl (fun _ => rfl) ?_
      refine u_st rfl (fun _ => rfl) ?_
      show u_P L xs m d m_X10_sendOff 80 [(0, .ref 87), (1, .ref 2), (2, .int j2), (3, .int x3)] [.int (Int32.ofInt (-1)), .ref 87] (z_s (g_fill89 (Int32.ofInt 0) S) 86 9 (Int32.ofInt (-1))) R _
      refine u_put rfl rfl rfl ?_
      refine u_st rfl (fun _ => rfl) ?_
      refine u_st rfl (fun _ => rfl) ?_
      refine u_st rfl (fun _ => rfl) ?_
      refine u_st rfl (fun _ => rfl) ?_
      refine u_st rfl (fun _ => rfl) ?_
      show u_P L xs m d m_X10_sendOff 88 [(0, .ref 87), (1, .ref 2), (2, .int j2), (3, .int x3)] [.int (Int32.ofInt 0), .int (Int32.ofInt 0), .int (Int32.ofInt 0), .ref 2, .ref 87] (z_s (z_s (g_fill89 (Int32.ofInt 0) S) 86 9 (Int32.ofInt (-1))) 86 10 (Int32.ofInt (-1))) R _
      refine u_cv (rest := []) rfl (by decide) mt_X10_sendFrom rfl rfl rfl rfl (Nat.le_of_ble_eq_true rfl) (Nat.le_of_ble_eq_true rfl) (Nat.le_of_ble_eq_true rfl) (fun d' => c_send L xs m d' (Int32.ofInt 0) (Int32.ofInt 0) (Int32.ofInt 0) (by decide) (z_s (z_s (g_fill89 (Int32.ofInt 0) S) 86 9 (Int32.ofInt (-1))) 86 10 (Int32.ofInt (-1))) R) ?_
      rintro _ _ _ ⟨rfl, rfl, rfl⟩
      show u_P L xs m d m_X10_sendOff 91 [(0, .ref 87), (1, .ref 2), (2, .int j2), (3, .int x3)] [] (g_send (Int32.ofInt 0) (Int32.ofInt 0) (Int32.ofInt 0) (z_s (z_s (g_fill89 (Int32.ofInt 0) S) 86 9 (Int32.ofInt (-1))) 86 10 (Int32.ofInt (-1)))) R _
      exact u_ret rfl rfl ⟨rfl, rfl, hD⟩
    · have hD := hD.2 h1
      show u_P L xs m d m_X10_sendOff 33 [(0, .ref 87), (1, .ref 2), (2, .int j2), (3, .int x3)] [] S R _
      refine u_st rfl (fun _ => rfl) ?_
      show u_P L xs m d m_X10_sendOff 34 [(0, .ref 87), (1, .ref 2), (2, .int j2), (3, .int x3)] [.ref 87] S R _
      refine u_getr rfl rfl rfl ?_
      refine u_st rfl (fun _ => rfl) ?_
      refine u_st rfl (fun _ => rfl) ?_
      show u_P L xs m d m_X10_sendOff 39 [(0, .ref 87), (1, .ref 2), (2, .int j2), (3, .int x3)] [.ref 87, .int x3, .ref 92] S R _
      refine u_getr rfl rfl rfl ?_
      refine u_st rfl (fun _ => rfl) ?_
      refine u_st rfl (fun _ => rfl) ?_
      refine u_st rfl (fun _ => rfl) ?_
      show u_P L xs m d m_X10_sendOff 45 [(0, .ref 87), (1, .ref 2), (2, .int j2), (3, .int x3)] [.int (x3 + (Int32.ofInt 1)), .ref 92, .int x3, .ref 92] S R _
      refine u_ialdE (v := S 91 ((x3 + (Int32.ofInt 1)).toInt.toNat)) rfl rfl rfl (fun b21 b22 => ?_)
      have hD := hD b21 b22
      show u_P L xs m d m_X10_sendOff 46 [(0, .ref 87), (1, .ref 2), (2, .int j2), (3, .int x3)] [.int (S 91 ((x3 + (Int32.ofInt 1)).toInt.toNat)), .int x3, .ref 92] S R _
      refine u_st rfl (fun _ => rfl) ?_
      show u_P L xs m d m_X10_sendOff 47 [(0, .ref 87), (1, .ref 2), (2, .int j2), (3, .int x3)] [.ref 2, .int (S 91 ((x3 + (Int32.ofInt 1)).toInt.toNat)), .int x3, .ref 92] S R _
      refine u_getr rfl rfl rfl ?_
      refine u_st rfl (fun _ => rfl) ?_
      show u_P L xs m d m_X10_sendOff 51 [(0, .ref 87), (1, .ref 2), (2, .int j2), (3, .int x3)] [.ref 87, .ref 3, .int (S 91 ((x3 + (Int32.ofInt 1)).toInt.toNat)), .int x3, .ref 92] S R _
      refine u_getr rfl rfl rfl ?_
      refine u_st rfl (fun _ => rfl) ?_
      show u_P L xs m d m_X10_sendOff 55 [(0, .ref 87), (1, .ref 2), (2, .int j2), (3, .int x3)] [.int x3, .ref 91, .ref 3, .int (S 91 ((x3 + (Int32.ofInt 1)).toInt.toNat)), .int x3, .ref 92] S R _
      refine u_ialdE (v := S 90 x3.toInt.toNat) rfl rfl rfl (fun b31 b32 => ?_)
      have hD := hD b31 b32
      show u_P L xs m d m_X10_sendOff 56 [(0, .ref 87), (1, .ref 2), (2, .int j2), (3, .int x3)] [.int (S 90 x3.toInt.toNat), .ref 3, .int (S 91 ((x3 + (Int32.ofInt 1)).toInt.toNat)), .int x3, .ref 92] S R _
      refine u_ialdE (v := S 2 ((S 90 x3.toInt.toNat).toInt.toNat)) rfl rfl rfl (fun b41 b42 => ?_)
      have hD := hD b41 b42
      show u_P L xs m d m_X10_sendOff 57 [(0, .ref 87), (1, .ref 2), (2, .int j2), (3, .int x3)] [.int (S 2 ((S 90 x3.toInt.toNat).toInt.toNat)), .int (S 91 ((x3 + (Int32.ofInt 1)).toInt.toNat)), .int x3, .ref 92] S R _
      refine u_st rfl (fun _ => rfl) ?_
      show u_P L xs m d m_X10_sendOff 58 [(0, .ref 87), (1, .ref 2), (2, .int j2), (3, .int x3)] [.int ((S 91 ((x3 + (Int32.ofInt 1)).toInt.toNat)) + (S 2 ((S 90 x3.toInt.toNat).toInt.toNat))), .int x3, .ref 92] S R _
      refine u_iast rfl rfl (fun b51 b52 => ?_)
      have hD := hD b51 b52
      show u_P L xs m d m_X10_sendOff 59 [(0, .ref 87), (1, .ref 2), (2, .int j2), (3, .int x3)] [] (z_s S 91 x3.toInt.toNat ((S 91 ((x3 + (Int32.ofInt 1)).toInt.toNat)) + (S 2 ((S 90 x3.toInt.toNat).toInt.toNat)))) R _
      refine u_st rfl (fun _ => rfl) ?_
      refine u_st rfl (fun _ => rfl) ?_
      refine u_lc (b := [(0, .ref 87), (1, .ref 2), (2, .int j2), (3, .int (x3 + (Int32.ofInt (-1))))]) (show ([3, 0, 1, 2] : List Nat).Nodup by decide) (show ([0, 1, 2, 3] : List Nat).Nodup by decide) (fun i => match i with | 0 => rfl | 1 => rfl | 2 => rfl | 3 => rfl | _ + 4 => rfl) ?_
      exact (ih m hm) d j2 (x3 + (Int32.ofInt (-1))) (z_s S 91 x3.toInt.toNat ((S 91 ((x3 + (Int32.ofInt 1)).toInt.toNat)) + (S 2 ((S 90 x3.toInt.toNat).toInt.toNat)))) hD
set_option maxRecDepth 4000 in
theorem w_X10_sendOff (L : Nat) (xs : Nat → Int32) {R : v_Rf} (a : Int32) (H29 : Int32 → v_Sf → Prop) (K : v_Sf → Prop) (k29 : ∀ (x3 : Int32) (S : v_Sf), H29 x3 S → D_X10_sendOff_29 H29 K x3 S) (n d : Nat) (S : v_Sf) (hD : D_X10_sendOff a H29 K S) : u_P L xs n d m_X10_sendOff 0 (lv_args 0 [.ref 87, .ref 2, .int a]) [] S R (z_V R K) := by
  unfold D_X10_sendOff at hD
  show u_P L xs n d m_X10_sendOff 0 [(0, .ref 87), (1, .ref 2), (2, .int a)] [] S R _
  refine u_st rfl (fun _ => rfl) ?_
  refine u_st rfl (fun _ => rfl) ?_
  refine u_st rfl (fun _ => rfl) ?_
  show u_P L xs n d m_X10_sendOff 3 [(0, .ref 87), (1, .ref 2), (2, .int a)] [.ref 87, .int a, .ref 87] S R _
  refine u_getr rfl rfl rfl ?_
  show u_P L xs n d m_X10_sendOff 6 [(0, .ref 87), (1, .ref 2), (2, .int a)] [.ref 91, .int a, .ref 87] S R _
  refine u_cs (ac := [.int a, .ref 91]) (rest := [.ref 87]) rfl (by decide) mt_X4_spread (fun _ => rfl) (Nat.le_of_ble_eq_true rfl) (Nat.le_of_ble_eq_true rfl) (fun d' => c_spread90 L xs n d' a S R) ?_
  rintro _ _ _ ⟨_, rfl, rfl, rfl, rfl⟩
  show u_P L xs n d m_X10_sendOff 9 [(0, .ref 87), (1, .ref 2), (2, .int a)] [.int (f_spread90 a S), .ref 87] (g_spread90 a S) R _
  refine u_put rfl rfl rfl ?_
  refine u_st rfl (fun _ => rfl) ?_
  show u_P L xs n d m_X10_sendOff 13 [(0, .ref 87), (1, .ref 2), (2, .int a)] [.ref 87] (z_s (g_spread90 a S) 86 5 (f_spread90 a S)) R _
  refine u_getr rfl rfl rfl ?_
  refine u_st rfl (fun _ => rfl) ?_
  show u_P L xs n d m_X10_sendOff 17 [(0, .ref 87), (1, .ref 2), (2, .int a)] [.ref 87, .ref 92] (z_s (g_spread90 a S) 86 5 (f_spread90 a S)) R _
  refine u_getE (v := f_spread90 a S) rfl rfl rfl z_ss ?_
  refine u_st rfl (fun _ => rfl) ?_
  show u_P L xs n d m_X10_sendOff 21 [(0, .ref 87), (1, .ref 2), (2, .int a)] [.int (Int32.ofInt 0), .int (f_spread90 a S), .ref 92] (z_s (g_spread90 a S) 86 5 (f_spread90 a S)) R _
  refine u_iast rfl rfl (fun b11 b12 => ?_)
  have hD := hD b11 b12
  show u_P L xs n d m_X10_sendOff 22 [(0, .ref 87), (1, .ref 2), (2, .int a)] [] (z_s (z_s (g_spread90 a S) 86 5 (f_spread90 a S)) 91 ((f_spread90 a S).toInt.toNat) (Int32.ofInt 0)) R _
  refine u_st rfl (fun _ => rfl) ?_
  show u_P L xs n d m_X10_sendOff 23 [(0, .ref 87), (1, .ref 2), (2, .int a)] [.ref 87] (z_s (z_s (g_spread90 a S) 86 5 (f_spread90 a S)) 91 ((f_spread90 a S).toInt.toNat) (Int32.ofInt 0)) R _
  refine u_getE (v := f_spread90 a S) rfl rfl rfl ((z_sn (fun h => absurd h.1 (by decide))).trans z_ss) ?_
  refine u_st rfl (fun _ => rfl) ?_
  refine u_st rfl (fun _ => rfl) ?_
  refine u_st rfl (fun _ => rfl) ?_
  refine u_lc (b := [(0, .ref 87), (1, .ref 2), (2, .int a), (3, .int ((f_spread90 a S) - (Int32.ofInt 1)))]) (show ([3, 0, 1, 2] : List Nat).Nodup by decide) (show ([0, 1, 2, 3] : List Nat).Nodup by decide) (fun i => match i with | 0 => rfl | 1 => rfl | 2 => rfl | 3 => rfl | _ + 4 => rfl) ?_
  exact (hd_X10_sendOff L xs a H29 K k29 n) d a ((f_spread90 a S) - (Int32.ofInt 1)) (z_s (z_s (g_spread90 a S) 86 5 (f_spread90 a S)) 91 ((f_spread90 a S).toInt.toNat) (Int32.ofInt 0)) hD
noncomputable def r_X10_sendOff_29  : Nat → Int32 → v_Sf → v_Sf
  | 0, x3, S => g_send (Int32.ofInt 0) (Int32.ofInt 0) (Int32.ofInt 0) (z_s (z_s (g_fill89 (Int32.ofInt 0) S) 86 9 (Int32.ofInt (-1))) 86 10 (Int32.ofInt (-1)))
  | r + 1, x3, S => r_X10_sendOff_29 r (x3 + (Int32.ofInt (-1))) (z_s S 91 x3.toInt.toNat ((S 91 ((x3 + (Int32.ofInt 1)).toInt.toNat)) + (S 2 ((S 90 x3.toInt.toNat).toInt.toNat))))
noncomputable def F_X10_sendOff (a : Int32) (S : v_Sf) : v_Sf := r_X10_sendOff_29 (((f_spread90 a S) - (Int32.ofInt 1)).toInt + 1).toNat ((f_spread90 a S) - (Int32.ofInt 1)) (z_s (z_s (g_spread90 a S) 86 5 (f_spread90 a S)) 91 ((f_spread90 a S).toInt.toNat) (Int32.ofInt 0))
noncomputable def g_X10_sendOff (a : Int32) (S : v_Sf) : v_Sf := F_X10_sendOff a S
theorem c_X10_sendOff (L : Nat) (xs : Nat → Int32) (n d : Nat) (a : Int32) (S : v_Sf) (R : v_Rf) : u_P L xs n d m_X10_sendOff 0 (lv_args 0 [.ref 87, .ref 2, .int a]) [] S R (z_V R (fun S1 => g_X10_sendOff a S = S1)) := by
  refine w_X10_sendOff L xs a (fun y3 T => r_X10_sendOff_29 (y3.toInt + 1).toNat y3 T = F_X10_sendOff a S) (fun S1 => g_X10_sendOff a S = S1) ?_ n d S ?_
  · rintro x3 S1 e
    unfold D_X10_sendOff_29
    rcases Classical.em (x3 < 0) with hk | hk
    · rw [z_dn0 hk, r_X10_sendOff_29] at e
      refine ⟨fun q1 => ?_, fun q1 => ?_⟩
      · exact e.symm
      · exact absurd hk q1
    · rw [z_dn hk, r_X10_sendOff_29] at e
      refine ⟨fun q2 => ?_, fun q2 => ?_⟩
      · exact absurd q2 hk
      · intro _ _
        intro _ _
        intro _ _
        intro _ _
        exact e
  · unfold D_X10_sendOff
    intro _ _
    have e : r_X10_sendOff_29 (((f_spread90 a S) - (Int32.ofInt 1)).toInt + 1).toNat ((f_spread90 a S) - (Int32.ofInt 1)) (z_s (z_s (g_spread90 a S) 86 5 (f_spread90 a S)) 91 ((f_spread90 a S).toInt.toNat) (Int32.ofInt 0)) = F_X10_sendOff a S := by rw [F_X10_sendOff]
    exact e
noncomputable abbrev m_X11_letGo : g_M := (g_cn 11, yX11_letGo, cX11_letGo, 4, (some .int), g_look2 ttX11_letGo)
set_option maxRecDepth 20000 in
theorem mt_X11_letGo : g_mt 136 = some m_X11_letGo := rfl
noncomputable def D_X11_letGo_29  (H29 : Int32 → Int32 → Int32 → v_Sf → Prop) (K : Int32 → v_Sf → Prop) (x1 : Int32) (x2 : Int32) (x3 : Int32) (S : v_Sf) : Prop := (((Int32.ofInt 12) ≤ x3 → K x2 (z_s S 1 0 ((S 1 0) &&& (x2 ^^^ (Int32.ofInt (-1)))))) ∧ (¬ ((Int32.ofInt 12) ≤ x3) → (((f_X11_isIn x1 x3) = 0 → H29 x1 x2 (x3 + (Int32.ofInt 1)) S) ∧ (¬ ((f_X11_isIn x1 x3) = 0) → (((f_X10_windOf x1 x3 S) = (Int32.ofInt 4) → H29 x1 x2 (x3 + (Int32.ofInt 1)) S) ∧ (¬ ((f_X10_windOf x1 x3 S) = (Int32.ofInt 4)) → H29 x1 (x2 ||| ((Int32.ofInt 1) <<< (x3 &&& 31))) (x3 + (Int32.ofInt 1)) S))))))
noncomputable def D_X11_letGo (a : Int32) (H29 : Int32 → Int32 → Int32 → v_Sf → Prop) (K : Int32 → v_Sf → Prop) (S : v_Sf) : Prop := (((¬ (f_X11_chosen a (Int32.ofInt 1) (Int32.ofInt 6) S) = 0) → H29 a (Int32.ofInt 0) (Int32.ofInt 0) (g_X10_sendOff a S)) ∧ (¬ (¬ (f_X11_chosen a (Int32.ofInt 1) (Int32.ofInt 6) S) = 0) → K (Int32.ofInt (-1)) S))
set_option maxRecDepth 4000 in
theorem hd_X11_letGo (L : Nat) (xs : Nat → Int32) {R : v_Rf} (a : Int32) (H29 : Int32 → Int32 → Int32 → v_Sf → Prop) (K : Int32 → v_Sf → Prop) (k29 : ∀ (x1 : Int32) (x2 : Int32) (x3 : Int32) (S : v_Sf), H29 x1 x2 x3 S → D_X11_letGo_29 H29 K x1 x2 x3 S) : ∀ n, (∀ (d : Nat) (x1 : Int32) (x2 : Int32) (x3 : Int32) (S : v_Sf), H29 x1 x2 x3 S → u_P L xs n d m_X11_letGo 29 [(0, .ref 1), (1, .int x1), (2, .int x2), (3, .int x3)] [] S R (z_Q R K)) := by
  intro n
  induction n using Nat.strongRecOn with
  | ind n ih =>
    intro d x1 x2 x3 S hD
    have hD := k29 x1 x2 x3 S hD
    unfold D_X11_letGo_29 at hD
    show u_P L xs n d m_X11_letGo 29 [(0, .ref 1), (1, .int x1), (2, .int x2), (3, .int x3)] [] S R _
    refine u_st1 rfl (fun _ => rfl) (fun m hm => ?_)
    refine u_st rfl (fun _ => rfl) ?_
    show u_P L xs m d m_X11_letGo 32 [(0, .ref 1), (1, .int x1), (2, .int x2), (3, .int x3)] [.int (Int32.ofInt 12), .int x3] S R _
    refine u_ic_ge rfl (fun h1 => ?_) (fun h1 => ?_)
    · have hD := hD.1 h1
      show u_P L xs m d m_X11_letGo 68 [(0, .ref 1), (1, .int x1), (2, .int x2), (3, .int x3)] [] S R _
      refine u_st rfl (fun _ => rfl) ?_
      show u_P L xs m d m_X11_letGo 69 [(0, .ref 1), (1, .int x1), (2, .int x2), (3, .int x3)] [.ref 1] S R _
      refine u_getr rfl v_tyC rfl ?_
      refine u_st rfl (fun _ => rfl) ?_
      show u_P L xs m d m_X11_letGo 73 [(0, .ref 1), (1, .int x1), (2, .int x2), (3, .int x3)] [.ref 2, .ref 2] S R _
      refine u_getE (v := S 1 0) rfl rfl rfl rfl ?_
      refine u_st rfl (fun _ => rfl) ?_
      refine u_st rfl (fun _ => rfl) ?_
      refine u_st rfl (fun _ => rfl) ?_
      refine u_st rfl (fun _ => rfl) ?_
      show u_P L xs m d m_X11_letGo 80 [(0, .ref 1), (1, .int x1), (2, .int x2), (3, .int x3)] [.int ((S 1 0) &&& (x2 ^^^ (Int32.ofInt (-1)))), .ref 2] S R _
      refine u_put rfl rfl rfl ?_
      refine u_st rfl (fun _ => rfl) ?_
      show u_P L xs m d m_X11_letGo 84 [(0, .ref 1), (1, .int x1), (2, .int x2), (3, .int x3)] [.int x2] (z_s S 1 0 ((S 1 0) &&& (x2 ^^^ (Int32.ofInt (-1))))) R _
      exact u_ret rfl rfl ⟨_, rfl, rfl, hD⟩
    · have hD := hD.2 h1
      show u_P L xs m d m_X11_letGo 35 [(0, .ref 1), (1, .int x1), (2, .int x2), (3, .int x3)] [] S R _
      refine u_st rfl (fun _ => rfl) ?_
      refine u_st rfl (fun _ => rfl) ?_
      show u_P L xs m d m_X11_letGo 37 [(0, .ref 1), (1, .int x1), (2, .int x2), (3, .int x3)] [.int x3, .int x1] S R _
      refine u_cs (ac := [.int x1, .int x3]) (rest := []) rfl (by decide) mt_X11_isIn (fun _ => rfl) (Nat.le_of_ble_eq_true rfl) (Nat.le_of_ble_eq_true rfl) (fun d' => c_X11_isIn L xs m d' x1 x3 S R) ?_
      rintro _ _ _ ⟨_, rfl, rfl, rfl, rfl⟩
      show u_P L xs m d m_X11_letGo 40 [(0, .ref 1), (1, .int x1), (2, .int x2), (3, .int x3)] [.int (f_X11_isIn x1 x3)] S R _
      refine u_if_eq rfl (fun h2 => ?_) (fun h2 => ?_)
      · have hD := hD.1 h2
        show u_P L xs m d m_X11_letGo 62 [(0, .ref 1), (1, .int x1), (2, .int x2), (3, .int x3)] [] S R _
        refine u_st rfl (fun _ => rfl) ?_
        refine u_st rfl (fun _ => rfl) ?_
        refine u_lc (b := [(0, .ref 1), (1, .int x1), (2, .int x2), (3, .int (x3 + (Int32.ofInt 1)))]) (show ([3, 0, 1, 2] : List Nat).Nodup by decide) (show ([0, 1, 2, 3] : List Nat).Nodup by decide) (fun i => match i with | 0 => rfl | 1 => rfl | 2 => rfl | 3 => rfl | _ + 4 => rfl) ?_
        exact (ih m hm) d x1 x2 (x3 + (Int32.ofInt 1)) S hD
      · have hD := hD.2 h2
        show u_P L xs m d m_X11_letGo 43 [(0, .ref 1), (1, .int x1), (2, .int x2), (3, .int x3)] [] S R _
        refine u_st rfl (fun _ => rfl) ?_
        show u_P L xs m d m_X11_letGo 44 [(0, .ref 1), (1, .int x1), (2, .int x2), (3, .int x3)] [.ref 1] S R _
        refine u_getr rfl v_tyC rfl ?_
        refine u_st rfl (fun _ => rfl) ?_
        refine u_st rfl (fun _ => rfl) ?_
        show u_P L xs m d m_X11_letGo 49 [(0, .ref 1), (1, .int x1), (2, .int x2), (3, .int x3)] [.int x3, .int x1, .ref 87] S R _
        refine u_cv (rest := []) rfl (by decide) mt_X10_windOf rfl rfl rfl rfl (Nat.le_of_ble_eq_true rfl) (Nat.le_of_ble_eq_true rfl) (Nat.le_of_ble_eq_true rfl) (fun d' => c_X10_windOf L xs m d' x1 x3 S R) ?_
        rintro _ _ _ ⟨_, rfl, rfl, rfl, rfl⟩
        refine u_st rfl (fun _ => rfl) ?_
        show u_P L xs m d m_X11_letGo 53 [(0, .ref 1), (1, .int x1), (2, .int x2), (3, .int x3)] [.int (Int32.ofInt 4), .int (f_X10_windOf x1 x3 S)] S R _
        refine u_ic_eq rfl (fun h3 => ?_) (fun h3 => ?_)
        · have hD := hD.1 h3
          show u_P L xs m d m_X11_letGo 62 [(0, .ref 1), (1, .int x1), (2, .int x2), (3, .int x3)] [] S R _
          refine u_st rfl (fun _ => rfl) ?_
          refine u_st rfl (fun _ => rfl) ?_
          refine u_lc (b := [(0, .ref 1), (1, .int x1), (2, .int x2), (3, .int (x3 + (Int32.ofInt 1)))]) (show ([3, 0, 1, 2] : List Nat).Nodup by decide) (show ([0, 1, 2, 3] : List Nat).Nodup by decide) (fun i => match i with | 0 => rfl | 1 => rfl | 2 => rfl | 3 => rfl | _ + 4 => rfl) ?_
          exact (ih m hm) d x1 x2 (x3 + (Int32.ofInt 1)) S hD
        · have hD := hD.2 h3
          show u_P L xs m d m_X11_letGo 56 [(0, .ref 1), (1, .int x1), (2, .int x2), (3, .int x3)] [] S R _
          refine u_st rfl (fun _ => rfl) ?_
          refine u_st rfl (fun _ => rfl) ?_
          refine u_st rfl (fun _ => rfl) ?_
          refine u_st rfl (fun _ => rfl) ?_
          refine u_st rfl (fun _ => rfl) ?_
          refine u_st rfl (fun _ => rfl) ?_
          refine u_st rfl (fun _ => rfl) ?_
          refine u_st rfl (fun _ => rfl) ?_
          refine u_lc (b := [(0, .ref 1), (1, .int x1), (2, .int (x2 ||| ((Int32.ofInt 1) <<< (x3 &&& 31)))), (3, .int (x3 + (Int32.ofInt 1)))]) (show ([3, 2, 0, 1] : List Nat).Nodup by decide) (show ([0, 1, 2, 3] : List Nat).Nodup by decide) (fun i => match i with | 0 => rfl | 1 => rfl | 2 => rfl | 3 => rfl | _ + 4 => rfl) ?_
          exact (ih m hm) d x1 (x2 ||| ((Int32.ofInt 1) <<< (x3 &&& 31))) (x3 + (Int32.ofInt 1)) S hD
set_option maxRecDepth 4000 in
theorem w_X11_letGo (L : Nat) (xs : Nat → Int32) {R : v_Rf} (a : Int32) (H29 : Int32 → Int32 → Int32 → v_Sf → Prop) (K : Int32 → v_Sf → Prop) (k29 : ∀ (x1 : Int32) (x2 : Int32) (x3 : Int32) (S : v_Sf), H29 x1 x2 x3 S → D_X11_letGo_29 H29 K x1 x2 x3 S) (n d : Nat) (S : v_Sf) (hD : D_X11_letGo a H29 K S) : u_P L xs n d m_X11_letGo 0 (lv_args 0 [.ref 1, .int a]) [] S R (z_Q R K) := by
  unfold D_X11_letGo at hD
  show u_P L xs n d m_X11_letGo 0 [(0, .ref 1), (1, .int a)] [] S R _
  refine u_st rfl (fun _ => rfl) ?_
  refine u_st rfl (fun _ => rfl) ?_
  refine u_st rfl (fun _ => rfl) ?_
  refine u_st rfl (fun _ => rfl) ?_
  show u_P L xs n d m_X11_letGo 5 [(0, .ref 1), (1, .int a)] [.int (Int32.ofInt 6), .int (Int32.ofInt 1), .int a, .ref 1] S R _
  refine u_cv (rest := []) rfl (by decide) mt_X11_chosen v_tyC rfl rfl rfl (Nat.le_of_ble_eq_true rfl) (Nat.le_of_ble_eq_true rfl) (Nat.le_of_ble_eq_true rfl) (fun d' => c_X11_chosen L xs n d' a (Int32.ofInt 1) (Int32.ofInt 6) S R) ?_
  rintro _ _ _ ⟨_, rfl, rfl, rfl, rfl⟩
  show u_P L xs n d m_X11_letGo 8 [(0, .ref 1), (1, .int a)] [.int (f_X11_chosen a (Int32.ofInt 1) (Int32.ofInt 6) S)] S R _
  refine u_if_ne rfl (fun h1 => ?_) (fun h1 => ?_)
  · have hD := hD.1 h1
    show u_P L xs n d m_X11_letGo 13 [(0, .ref 1), (1, .int a)] [] S R _
    refine u_st rfl (fun _ => rfl) ?_
    show u_P L xs n d m_X11_letGo 14 [(0, .ref 1), (1, .int a)] [.ref 1] S R _
    refine u_getr rfl v_tyC rfl ?_
    refine u_st rfl (fun _ => rfl) ?_
    show u_P L xs n d m_X11_letGo 18 [(0, .ref 1), (1, .int a)] [.ref 1, .ref 87] S R _
    refine u_getr rfl v_tyC rfl ?_
    refine u_st rfl (fun _ => rfl) ?_
    show u_P L xs n d m_X11_letGo 22 [(0, .ref 1), (1, .int a)] [.int a, .ref 2, .ref 87] S R _
    refine u_cv (rest := []) rfl (by decide) mt_X10_sendOff rfl rfl rfl rfl (Nat.le_of_ble_eq_true rfl) (Nat.le_of_ble_eq_true rfl) (Nat.le_of_ble_eq_true rfl) (fun d' => c_X10_sendOff L xs n d' a S R) ?_
    rintro _ _ _ ⟨rfl, rfl, rfl⟩
    refine u_st rfl (fun _ => rfl) ?_
    refine u_st rfl (fun _ => rfl) ?_
    refine u_st rfl (fun _ => rfl) ?_
    refine u_st rfl (fun _ => rfl) ?_
    refine u_lc (b := [(0, .ref 1), (1, .int a), (2, .int (Int32.ofInt 0)), (3, .int (Int32.ofInt 0))]) (show ([3, 2, 0, 1] : List Nat).Nodup by decide) (show ([0, 1, 2, 3] : List Nat).Nodup by decide) (fun i => match i with | 0 => rfl | 1 => rfl | 2 => rfl | 3 => rfl | _ + 4 => rfl) ?_
    exact (hd_X11_letGo L xs a H29 K k29 n) d a (Int32.ofInt 0) (Int32.ofInt 0) (g_X10_sendOff a S) hD
  · have hD := hD.2 h1
    show u_P L xs n d m_X11_letGo 11 [(0, .ref 1), (1, .int a)] [] S R _
    refine u_st rfl (fun _ => rfl) ?_
    show u_P L xs n d m_X11_letGo 12 [(0, .ref 1), (1, .int a)] [.int (Int32.ofInt (-1))] S R _
    exact u_ret rfl rfl ⟨_, rfl, rfl, hD⟩
noncomputable def r_X11_letGo_29 (x1 : Int32) : Nat → Nat → Int32 → v_Sf → Int32 × v_Sf
  | 0, k29, x2, S => (x2, z_s S 1 0 ((S 1 0) &&& (x2 ^^^ (Int32.ofInt (-1)))))
  | r + 1, k29, x2, S => (if (f_X11_isIn x1 (z_i k29)) = 0 then r_X11_letGo_29 x1 r (k29 + 1) x2 S else (if (f_X10_windOf x1 (z_i k29) S) = (Int32.ofInt 4) then r_X11_letGo_29 x1 r (k29 + 1) x2 S else r_X11_letGo_29 x1 r (k29 + 1) (x2 ||| ((Int32.ofInt 1) <<< ((z_i k29) &&& 31))) S))
noncomputable def F_X11_letGo (a : Int32) (S : v_Sf) : Int32 × v_Sf := (if ¬ (f_X11_chosen a (Int32.ofInt 1) (Int32.ofInt 6) S) = 0 then r_X11_letGo_29 a (12 - 0) 0 (Int32.ofInt 0) (g_X10_sendOff a S) else (Int32.ofInt (-1), S))
noncomputable def f_X11_letGo (a : Int32) (S : v_Sf) : Int32 := (F_X11_letGo a S).1
noncomputable def g_X11_letGo (a : Int32) (S : v_Sf) : v_Sf := (F_X11_letGo a S).2
theorem c_X11_letGo (L : Nat) (xs : Nat → Int32) (n d : Nat) (a : Int32) (S : v_Sf) (R : v_Rf) : u_P L xs n d m_X11_letGo 0 (lv_args 0 [.ref 1, .int a]) [] S R (z_Q R (fun v S1 => f_X11_letGo a S = v ∧ g_X11_letGo a S = S1)) := by
  refine w_X11_letGo L xs a (fun y1 y2 y3 T => ∃ (k29 : Nat), k29 ≤ 12 ∧ z_i k29 = y3 ∧ a = y1 ∧ r_X11_letGo_29 a (12 - k29) k29 y2 T = F_X11_letGo a S) (fun v S1 => f_X11_letGo a S = v ∧ g_X11_letGo a S = S1) ?_ n d S ?_
  · rintro _ x2 _ S1 ⟨k29, hkk, rfl, rfl, e⟩
    unfold D_X11_letGo_29
    rcases Nat.lt_or_ge k29 (12) with hk | hk
    · rw [show 12 - k29 = (12 - (k29 + 1)) + 1 by omega, r_X11_letGo_29] at e
      refine ⟨fun q1 => ?_, fun q1 => ?_⟩
      · exact absurd hk (Nat.not_lt.mpr (z_leB2 (B := 12) q1 (by decide) (by omega)))
      · refine ⟨fun q2 => ?_, fun q2 => ?_⟩
        · rw [if_pos q2] at e
          exact ⟨(k29 + 1), by omega, (z_i1 k29).symm, rfl, e⟩
        · refine ⟨fun q3 => ?_, fun q3 => ?_⟩
          · rw [if_neg q2, if_pos q3] at e
            exact ⟨(k29 + 1), by omega, (z_i1 k29).symm, rfl, e⟩
          · rw [if_neg q2, if_neg q3] at e
            exact ⟨(k29 + 1), by omega, (z_i1 k29).symm, rfl, e⟩
    · rw [show 12 - k29 = 0 by omega, r_X11_letGo_29] at e
      refine ⟨fun q4 => ?_, fun q4 => ?_⟩
      · have e1 := congrArg Prod.fst e.symm
        have e2 := congrArg Prod.snd e.symm
        exact ⟨e1, e2⟩
      · exact absurd hk (Nat.not_le.mpr (z_ltB2 (B := 12) q4 (by decide) (by omega)))
  · unfold D_X11_letGo
    refine ⟨fun q5 => ?_, fun q5 => ?_⟩
    · have e : r_X11_letGo_29 a (12 - 0) 0 (Int32.ofInt 0) (g_X10_sendOff a S) = F_X11_letGo a S := by rw [F_X11_letGo, if_pos q5]
      exact ⟨0, by omega, rfl, rfl, e⟩
    · have e : (Int32.ofInt (-1), S) = F_X11_letGo a S := by rw [F_X11_letGo, if_neg q5]
      have e1 := congrArg Prod.fst e.symm
      have e2 := congrArg Prod.snd e.symm
      exact ⟨e1, e2⟩
noncomputable abbrev m_X11_leaving : g_M := (g_cn 11, yX11_leaving, cX11_leaving, 3, (some .int), g_look2 ttX11_leaving)
set_option maxRecDepth 20000 in
theorem mt_X11_leaving : g_mt 135 = some m_X11_leaving := rfl
noncomputable def f_X11_leaving (a : Int32) (b : Int32) (S : v_Sf) : Int32 := (if (f_X11_chosen a (Int32.ofInt 1) (Int32.ofInt 6) S) = 0 then Int32.ofInt (-1) else (if b = (Int32.ofInt 20) then (g_X10_sendOff a S) 86 9 else (if b = (Int32.ofInt 21) then (g_X10_sendOff a S) 86 10 else (if ¬ (f_X11_isIn a b) = 0 then f_X10_windOf a b (g_X10_sendOff a S) else Int32.ofInt (-1)))))
noncomputable def g_X11_leaving (a : Int32) (b : Int32) (S : v_Sf) : v_Sf := (if (f_X11_chosen a (Int32.ofInt 1) (Int32.ofInt 6) S) = 0 then S else (if b = (Int32.ofInt 20) then g_X10_sendOff a S else (if b = (Int32.ofInt 21) then g_X10_sendOff a S else (if ¬ (f_X11_isIn a b) = 0 then g_X10_sendOff a S else S))))
set_option maxRecDepth 4000 in
theorem c_X11_leaving (L : Nat) (xs : Nat → Int32) (n d : Nat) (a : Int32) (b : Int32) (S : v_Sf) (R : v_Rf) : u_P L xs n d m_X11_leaving 0 (lv_args 0 [.ref 1, .int a, .int b]) [] S R (z_Q R (fun v S1 => f_X11_leaving a b S = v ∧ g_X11_leaving a b S = S1)) := by
  show u_P L xs n d m_X11_leaving 0 [(0, .ref 1), (1, .int a), (2, .int b)] [] S R _
  refine u_st rfl (fun _ => rfl) ?_
  refine u_st rfl (fun _ => rfl) ?_
  refine u_st rfl (fun _ => rfl) ?_
  refine u_st rfl (fun _ => rfl) ?_
  show u_P L xs n d m_X11_leaving 5 [(0, .ref 1), (1, .int a), (2, .int b)] [.int (Int32.ofInt 6), .int (Int32.ofInt 1), .int a, .ref 1] S R _
  refine u_cv (rest := []) rfl (by decide) mt_X11_chosen v_tyC rfl rfl rfl (Nat.le_of_ble_eq_true rfl) (Nat.le_of_ble_eq_true rfl) (Nat.le_of_ble_eq_true rfl) (fun d' => c_X11_chosen L xs n d' a (Int32.ofInt 1) (Int32.ofInt 6) S R) ?_
  rintro _ _ _ ⟨_, rfl, rfl, rfl, rfl⟩
  show u_P L xs n d m_X11_leaving 8 [(0, .ref 1), (1, .int a), (2, .int b)] [.int (f_X11_chosen a (Int32.ofInt 1) (Int32.ofInt 6) S)] S R _
  refine u_if_eq rfl (fun h1 => ?_) (fun h1 => ?_)
  · show u_P L xs n d m_X11_leaving 31 [(0, .ref 1), (1, .int a), (2, .int b)] [] S R _
    refine u_st rfl (fun _ => rfl) ?_
    show u_P L xs n d m_X11_leaving 32 [(0, .ref 1), (1, .int a), (2, .int b)] [.int (Int32.ofInt (-1))] S R _
    exact u_ret rfl rfl ⟨_, rfl, rfl, by rw [f_X11_leaving, if_pos h1], by rw [g_X11_leaving, if_pos h1]⟩
  · show u_P L xs n d m_X11_leaving 11 [(0, .ref 1), (1, .int a), (2, .int b)] [] S R _
    refine u_st rfl (fun _ => rfl) ?_
    refine u_st rfl (fun _ => rfl) ?_
    show u_P L xs n d m_X11_leaving 14 [(0, .ref 1), (1, .int a), (2, .int b)] [.int (Int32.ofInt 20), .int b] S R _
    refine u_ic_eq rfl (fun h2 => ?_) (fun h2 => ?_)
    · show u_P L xs n d m_X11_leaving 33 [(0, .ref 1), (1, .int a), (2, .int b)] [] S R _
      refine u_st rfl (fun _ => rfl) ?_
      show u_P L xs n d m_X11_leaving 34 [(0, .ref 1), (1, .int a), (2, .int b)] [.ref 1] S R _
      refine u_getr rfl v_tyC rfl ?_
      refine u_st rfl (fun _ => rfl) ?_
      show u_P L xs n d m_X11_leaving 38 [(0, .ref 1), (1, .int a), (2, .int b)] [.ref 1, .ref 87] S R _
      refine u_getr rfl v_tyC rfl ?_
      refine u_st rfl (fun _ => rfl) ?_
      show u_P L xs n d m_X11_leaving 42 [(0, .ref 1), (1, .int a), (2, .int b)] [.int a, .ref 2, .ref 87] S R _
      refine u_cv (rest := []) rfl (by decide) mt_X10_sendOff rfl rfl rfl rfl (Nat.le_of_ble_eq_true rfl) (Nat.le_of_ble_eq_true rfl) (Nat.le_of_ble_eq_true rfl) (fun d' => c_X10_sendOff L xs n d' a S R) ?_
      rintro _ _ _ ⟨rfl, rfl, rfl⟩
      refine u_st rfl (fun _ => rfl) ?_
      refine u_st rfl (fun _ => rfl) ?_
      show u_P L xs n d m_X11_leaving 48 [(0, .ref 1), (1, .int a), (2, .int b)] [.int (Int32.ofInt 20), .int b] (g_X10_sendOff a S) R _
      refine u_ic_ne rfl (fun h3 => absurd h2 h3) (fun _ => ?_)
      show u_P L xs n d m_X11_leaving 51 [(0, .ref 1), (1, .int a), (2, .int b)] [] (g_X10_sendOff a S) R _
      refine u_st rfl (fun _ => rfl) ?_
      show u_P L xs n d m_X11_leaving 52 [(0, .ref 1), (1, .int a), (2, .int b)] [.ref 1] (g_X10_sendOff a S) R _
      refine u_getr rfl v_tyC rfl ?_
      show u_P L xs n d m_X11_leaving 55 [(0, .ref 1), (1, .int a), (2, .int b)] [.ref 87] (g_X10_sendOff a S) R _
      refine u_getE (v := (g_X10_sendOff a S) 86 9) rfl rfl rfl rfl ?_
      show u_P L xs n d m_X11_leaving 58 [(0, .ref 1), (1, .int a), (2, .int b)] [.int ((g_X10_sendOff a S) 86 9)] (g_X10_sendOff a S) R _
      exact u_ret rfl rfl ⟨_, rfl, rfl, by rw [f_X11_leaving, if_neg h1, if_pos h2], by rw [g_X11_leaving, if_neg h1, if_pos h2]⟩
    · show u_P L xs n d m_X11_leaving 17 [(0, .ref 1), (1, .int a), (2, .int b)] [] S R _
      refine u_st rfl (fun _ => rfl) ?_
      refine u_st rfl (fun _ => rfl) ?_
      show u_P L xs n d m_X11_leaving 20 [(0, .ref 1), (1, .int a), (2, .int b)] [.int (Int32.ofInt 21), .int b] S R _
      refine u_ic_eq rfl (fun h4 => ?_) (fun h4 => ?_)
      · show u_P L xs n d m_X11_leaving 33 [(0, .ref 1), (1, .int a), (2, .int b)] [] S R _
        refine u_st rfl (fun _ => rfl) ?_
        show u_P L xs n d m_X11_leaving 34 [(0, .ref 1), (1, .int a), (2, .int b)] [.ref 1] S R _
        refine u_getr rfl v_tyC rfl ?_
        refine u_st rfl (fun _ => rfl) ?_
        show u_P L xs n d m_X11_leaving 38 [(0, .ref 1), (1, .int a), (2, .int b)] [.ref 1, .ref 87] S R _
        refine u_getr rfl v_tyC rfl ?_
        refine u_st rfl (fun _ => rfl) ?_
        show u_P L xs n d m_X11_leaving 42 [(0, .ref 1), (1, .int a), (2, .int b)] [.int a, .ref 2, .ref 87] S R _
        refine u_cv (rest := []) rfl (by decide) mt_X10_sendOff rfl rfl rfl rfl (Nat.le_of_ble_eq_true rfl) (Nat.le_of_ble_eq_true rfl) (Nat.le_of_ble_eq_true rfl) (fun d' => c_X10_sendOff L xs n d' a S R) ?_
        rintro _ _ _ ⟨rfl, rfl, rfl⟩
        refine u_st rfl (fun _ => rfl) ?_
        refine u_st rfl (fun _ => rfl) ?_
        show u_P L xs n d m_X11_leaving 48 [(0, .ref 1), (1, .int a), (2, .int b)] [.int (Int32.ofInt 20), .int b] (g_X10_sendOff a S) R _
        refine u_ic_ne rfl (fun _ => ?_) (fun h5 => absurd (h4.symm.trans (Classical.not_not.mp h5)) (by decide))
        show u_P L xs n d m_X11_leaving 59 [(0, .ref 1), (1, .int a), (2, .int b)] [] (g_X10_sendOff a S) R _
        refine u_st rfl (fun _ => rfl) ?_
        refine u_st rfl (fun _ => rfl) ?_
        show u_P L xs n d m_X11_leaving 62 [(0, .ref 1), (1, .int a), (2, .int b)] [.int (Int32.ofInt 21), .int b] (g_X10_sendOff a S) R _
        refine u_ic_ne rfl (fun h6 => absurd h4 h6) (fun _ => ?_)
        show u_P L xs n d m_X11_leaving 65 [(0, .ref 1), (1, .int a), (2, .int b)] [] (g_X10_sendOff a S) R _
        refine u_st rfl (fun _ => rfl) ?_
        show u_P L xs n d m_X11_leaving 66 [(0, .ref 1), (1, .int a), (2, .int b)] [.ref 1] (g_X10_sendOff a S) R _
        refine u_getr rfl v_tyC rfl ?_
        show u_P L xs n d m_X11_leaving 69 [(0, .ref 1), (1, .int a), (2, .int b)] [.ref 87] (g_X10_sendOff a S) R _
        refine u_getE (v := (g_X10_sendOff a S) 86 10) rfl rfl rfl rfl ?_
        refine u_st rfl (fun _ => rfl) ?_
        show u_P L xs n d m_X11_leaving 84 [(0, .ref 1), (1, .int a), (2, .int b)] [.int ((g_X10_sendOff a S) 86 10)] (g_X10_sendOff a S) R _
        exact u_ret rfl rfl ⟨_, rfl, rfl, by rw [f_X11_leaving, if_neg h1, if_neg h2, if_pos h4], by rw [g_X11_leaving, if_neg h1, if_neg h2, if_pos h4]⟩
      · show u_P L xs n d m_X11_leaving 23 [(0, .ref 1), (1, .int a), (2, .int b)] [] S R _
        refine u_st rfl (fun _ => rfl) ?_
        refine u_st rfl (fun _ => rfl) ?_
        show u_P L xs n d m_X11_leaving 25 [(0, .ref 1), (1, .int a), (2, .int b)] [.int b, .int a] S R _
        refine u_cs (ac := [.int a, .int b]) (rest := []) rfl (by decide) mt_X11_isIn (fun _ => rfl) (Nat.le_of_ble_eq_true rfl) (Nat.le_of_ble_eq_true rfl) (fun d' => c_X11_isIn L xs n d' a b S R) ?_
        rintro _ _ _ ⟨_, rfl, rfl, rfl, rfl⟩
        show u_P L xs n d m_X11_leaving 28 [(0, .ref 1), (1, .int a), (2, .int b)] [.int (f_X11_isIn a b)] S R _
        refine u_if_ne rfl (fun h7 => ?_) (fun h7 => ?_)
        · show u_P L xs n d m_X11_leaving 33 [(0, .ref 1), (1, .int a), (2, .int b)] [] S R _
          refine u_st rfl (fun _ => rfl) ?_
          show u_P L xs n d m_X11_leaving 34 [(0, .ref 1), (1, .int a), (2, .int b)] [.ref 1] S R _
          refine u_getr rfl v_tyC rfl ?_
          refine u_st rfl (fun _ => rfl) ?_
          show u_P L xs n d m_X11_leaving 38 [(0, .ref 1), (1, .int a), (2, .int b)] [.ref 1, .ref 87] S R _
          refine u_getr rfl v_tyC rfl ?_
          refine u_st rfl (fun _ => rfl) ?_
          show u_P L xs n d m_X11_leaving 42 [(0, .ref 1), (1, .int a), (2, .int b)] [.int a, .ref 2, .ref 87] S R _
          refine u_cv (rest := []) rfl (by decide) mt_X10_sendOff rfl rfl rfl rfl (Nat.le_of_ble_eq_true rfl) (Nat.le_of_ble_eq_true rfl) (Nat.le_of_ble_eq_true rfl) (fun d' => c_X10_sendOff L xs n d' a S R) ?_
          rintro _ _ _ ⟨rfl, rfl, rfl⟩
          refine u_st rfl (fun _ => rfl) ?_
          refine u_st rfl (fun _ => rfl) ?_
          show u_P L xs n d m_X11_leaving 48 [(0, .ref 1), (1, .int a), (2, .int b)] [.int (Int32.ofInt 20), .int b] (g_X10_sendOff a S) R _
          refine u_ic_ne rfl (fun _ => ?_) (fun h8 => absurd h2 h8)
          show u_P L xs n d m_X11_leaving 59 [(0, .ref 1), (1, .int a), (2, .int b)] [] (g_X10_sendOff a S) R _
          refine u_st rfl (fun _ => rfl) ?_
          refine u_st rfl (fun _ => rfl) ?_
          show u_P L xs n d m_X11_leaving 62 [(0, .ref 1), (1, .int a), (2, .int b)] [.int (Int32.ofInt 21), .int b] (g_X10_sendOff a S) R _
          refine u_ic_ne rfl (fun _ => ?_) (fun h9 => absurd h4 h9)
          show u_P L xs n d m_X11_leaving 75 [(0, .ref 1), (1, .int a), (2, .int b)] [] (g_X10_sendOff a S) R _
          refine u_st rfl (fun _ => rfl) ?_
          show u_P L xs n d m_X11_leaving 76 [(0, .ref 1), (1, .int a), (2, .int b)] [.ref 1] (g_X10_sendOff a S) R _
          refine u_getr rfl v_tyC rfl ?_
          refine u_st rfl (fun _ => rfl) ?_
          refine u_st rfl (fun _ => rfl) ?_
          show u_P L xs n d m_X11_leaving 81 [(0, .ref 1), (1, .int a), (2, .int b)] [.int b, .int a, .ref 87] (g_X10_sendOff a S) R _
          refine u_cv (rest := []) rfl (by decide) mt_X10_windOf rfl rfl rfl rfl (Nat.le_of_ble_eq_true rfl) (Nat.le_of_ble_eq_true rfl) (Nat.le_of_ble_eq_true rfl) (fun d' => c_X10_windOf L xs n d' a b (g_X10_sendOff a S) R) ?_
          rintro _ _ _ ⟨_, rfl, rfl, rfl, rfl⟩
          show u_P L xs n d m_X11_leaving 84 [(0, .ref 1), (1, .int a), (2, .int b)] [.int (f_X10_windOf a b (g_X10_sendOff a S))] (g_X10_sendOff a S) R _
          exact u_ret rfl rfl ⟨_, rfl, rfl, by rw [f_X11_leaving, if_neg h1, if_neg h2, if_neg h4, if_pos h7], by rw [g_X11_leaving, if_neg h1, if_neg h2, if_neg h4, if_pos h7]⟩
        · show u_P L xs n d m_X11_leaving 31 [(0, .ref 1), (1, .int a), (2, .int b)] [] S R _
          refine u_st rfl (fun _ => rfl) ?_
          show u_P L xs n d m_X11_leaving 32 [(0, .ref 1), (1, .int a), (2, .int b)] [.int (Int32.ofInt (-1))] S R _
          exact u_ret rfl rfl ⟨_, rfl, rfl, by rw [f_X11_leaving, if_neg h1, if_neg h2, if_neg h4, if_neg h7], by rw [g_X11_leaving, if_neg h1, if_neg h2, if_neg h4, if_neg h7]⟩
noncomputable def f_X12_placeIn (a : Int32) (b : Int32) : Int32 := f_X12_sizeOf (a &&& (((Int32.ofInt 1) <<< (b &&& 31)) - (Int32.ofInt 1)))
set_option maxRecDepth 4000 in
theorem c_X12_placeIn (L : Nat) (xs : Nat → Int32) (n d : Nat) (a : Int32) (b : Int32) (S : v_Sf) (R : v_Rf) : u_P L xs n d m_X12_placeIn 0 (lv_args 0 [.int a, .int b]) [] S R (z_Q R (fun v S1 => f_X12_placeIn a b = v ∧ S = S1)) := by
  show u_P L xs n d m_X12_placeIn 0 [(0, .int a), (1, .int b)] [] S R _
  refine u_st rfl (fun _ => rfl) ?_
  refine u_st rfl (fun _ => rfl) ?_
  refine u_st rfl (fun _ => rfl) ?_
  refine u_st rfl (fun _ => rfl) ?_
  refine u_st rfl (fun _ => rfl) ?_
  refine u_st rfl (fun _ => rfl) ?_
  refine u_st rfl (fun _ => rfl) ?_
  show u_P L xs n d m_X12_placeIn 7 [(0, .int a), (1, .int b)] [.int (a &&& (((Int32.ofInt 1) <<< (b &&& 31)) - (Int32.ofInt 1)))] S R _
  refine u_cs (ac := [.int (a &&& (((Int32.ofInt 1) <<< (b &&& 31)) - (Int32.ofInt 1)))]) (rest := []) rfl (by decide) mt_X12_sizeOf (fun _ => rfl) (Nat.le_of_ble_eq_true rfl) (Nat.le_of_ble_eq_true rfl) (fun d' => c_X12_sizeOf L xs n d' (a &&& (((Int32.ofInt 1) <<< (b &&& 31)) - (Int32.ofInt 1))) S R) ?_
  rintro _ _ _ ⟨_, rfl, rfl, rfl, rfl⟩
  show u_P L xs n d m_X12_placeIn 10 [(0, .int a), (1, .int b)] [.int (f_X12_sizeOf (a &&& (((Int32.ofInt 1) <<< (b &&& 31)) - (Int32.ofInt 1))))] S R _
  exact u_ret rfl rfl ⟨_, rfl, rfl, rfl, rfl⟩
noncomputable abbrev m_X12_leaving : g_M := (g_cn 12, yX12_leaving, cX12_leaving, 3, (some .int), g_look2 ttX12_leaving)
set_option maxRecDepth 20000 in
theorem mt_X12_leaving : g_mt 264 = some m_X12_leaving := rfl
noncomputable def f_X12_leaving (a : Int32) (b : Int32) (S : v_Sf) : Int32 := (if (f_X12_areGusts a (Int32.ofInt 1) (Int32.ofInt 6) S) = 0 then Int32.ofInt (-1) else (if b = (Int32.ofInt 20) then (g_X12_laysLeaving (f_X12_takesSome a S) (g_X12_takesSome a S)) 99 102 else (if b = (Int32.ofInt 21) then (g_X12_laysLeaving (f_X12_takesSome a S) (g_X12_takesSome a S)) 99 103 else (if (z_in b 0 11) = 0 then Int32.ofInt (-1) else (if ¬ (f_X12_has a b) = 0 then (g_X12_laysLeaving (f_X12_takesSome a S) (g_X12_takesSome a S)) 155 ((f_X12_placeIn a b).toInt.toNat) else Int32.ofInt (-1))))))
noncomputable def g_X12_leaving (a : Int32) (b : Int32) (S : v_Sf) : v_Sf := (if (f_X12_areGusts a (Int32.ofInt 1) (Int32.ofInt 6) S) = 0 then S else (if b = (Int32.ofInt 20) then g_X12_laysLeaving (f_X12_takesSome a S) (g_X12_takesSome a S) else (if b = (Int32.ofInt 21) then g_X12_laysLeaving (f_X12_takesSome a S) (g_X12_takesSome a S) else (if (z_in b 0 11) = 0 then S else (if ¬ (f_X12_has a b) = 0 then g_X12_laysLeaving (f_X12_takesSome a S) (g_X12_takesSome a S) else S)))))
set_option maxRecDepth 4000 in
theorem c_X12_leaving (L : Nat) (xs : Nat → Int32) (n d : Nat) (a : Int32) (b : Int32) (S : v_Sf) (R : v_Rf) : u_P L xs n d m_X12_leaving 0 (lv_args 0 [.ref 100, .int a, .int b]) [] S R (z_Q R (fun v S1 => f_X12_leaving a b S = v ∧ g_X12_leaving a b S = S1)) := by
  show u_P L xs n d m_X12_leaving 0 [(0, .ref 100), (1, .int a), (2, .int b)] [] S R _
  refine u_st rfl (fun _ => rfl) ?_
  refine u_st rfl (fun _ => rfl) ?_
  refine u_st rfl (fun _ => rfl) ?_
  refine u_st rfl (fun _ => rfl) ?_
  show u_P L xs n d m_X12_leaving 5 [(0, .ref 100), (1, .int a), (2, .int b)] [.int (Int32.ofInt 6), .int (Int32.ofInt 1), .int a, .ref 100] S R _
  refine u_cv (rest := []) rfl (by decide) mt_X12_areGusts v_tyM rfl rfl rfl (Nat.le_of_ble_eq_true rfl) (Nat.le_of_ble_eq_true rfl) (Nat.le_of_ble_eq_true rfl) (fun d' => c_X12_areGusts L xs n d' a (Int32.ofInt 1) (Int32.ofInt 6) S R) ?_
  rintro _ _ _ ⟨_, rfl, rfl, rfl, rfl⟩
  show u_P L xs n d m_X12_leaving 8 [(0, .ref 100), (1, .int a), (2, .int b)] [.int (f_X12_areGusts a (Int32.ofInt 1) (Int32.ofInt 6) S)] S R _
  refine u_if_eq rfl (fun h1 => ?_) (fun h1 => ?_)
  · show u_P L xs n d m_X12_leaving 43 [(0, .ref 100), (1, .int a), (2, .int b)] [] S R _
    refine u_st rfl (fun _ => rfl) ?_
    show u_P L xs n d m_X12_leaving 44 [(0, .ref 100), (1, .int a), (2, .int b)] [.int (Int32.ofInt (-1))] S R _
    exact u_ret rfl rfl ⟨_, rfl, rfl, by rw [f_X12_leaving, if_pos h1], by rw [g_X12_leaving, if_pos h1]⟩
  · show u_P L xs n d m_X12_leaving 11 [(0, .ref 100), (1, .int a), (2, .int b)] [] S R _
    refine u_st rfl (fun _ => rfl) ?_
    refine u_st rfl (fun _ => rfl) ?_
    show u_P L xs n d m_X12_leaving 14 [(0, .ref 100), (1, .int a), (2, .int b)] [.int (Int32.ofInt 20), .int b] S R _
    refine u_ic_eq rfl (fun h2 => ?_) (fun h2 => ?_)
    · show u_P L xs n d m_X12_leaving 45 [(0, .ref 100), (1, .int a), (2, .int b)] [] S R _
      refine u_st rfl (fun _ => rfl) ?_
      refine u_st rfl (fun _ => rfl) ?_
      refine u_st rfl (fun _ => rfl) ?_
      show u_P L xs n d m_X12_leaving 48 [(0, .ref 100), (1, .int a), (2, .int b)] [.int a, .ref 100, .ref 100] S R _
      refine u_cv (rest := [.ref 100]) rfl (by decide) mt_X12_takesSome v_tyM rfl rfl rfl (Nat.le_of_ble_eq_true rfl) (Nat.le_of_ble_eq_true rfl) (Nat.le_of_ble_eq_true rfl) (fun d' => c_X12_takesSome L xs n d' a S R) ?_
      rintro _ _ _ ⟨_, rfl, rfl, rfl, rfl⟩
      show u_P L xs n d m_X12_leaving 51 [(0, .ref 100), (1, .int a), (2, .int b)] [.int (f_X12_takesSome a S), .ref 100] (g_X12_takesSome a S) R _
      refine u_cv (rest := []) rfl (by decide) mt_X12_laysLeaving v_tyM rfl rfl rfl (Nat.le_of_ble_eq_true rfl) (Nat.le_of_ble_eq_true rfl) (Nat.le_of_ble_eq_true rfl) (fun d' => c_X12_laysLeaving L xs n d' (f_X12_takesSome a S) (g_X12_takesSome a S) R) ?_
      rintro _ _ _ ⟨rfl, rfl, rfl⟩
      refine u_st rfl (fun _ => rfl) ?_
      refine u_st rfl (fun _ => rfl) ?_
      show u_P L xs n d m_X12_leaving 57 [(0, .ref 100), (1, .int a), (2, .int b)] [.int (Int32.ofInt 20), .int b] (g_X12_laysLeaving (f_X12_takesSome a S) (g_X12_takesSome a S)) R _
      refine u_ic_ne rfl (fun h3 => absurd h2 h3) (fun _ => ?_)
      show u_P L xs n d m_X12_leaving 60 [(0, .ref 100), (1, .int a), (2, .int b)] [] (g_X12_laysLeaving (f_X12_takesSome a S) (g_X12_takesSome a S)) R _
      refine u_st rfl (fun _ => rfl) ?_
      show u_P L xs n d m_X12_leaving 61 [(0, .ref 100), (1, .int a), (2, .int b)] [.ref 100] (g_X12_laysLeaving (f_X12_takesSome a S) (g_X12_takesSome a S)) R _
      refine u_getE (v := (g_X12_laysLeaving (f_X12_takesSome a S) (g_X12_takesSome a S)) 99 102) rfl v_tyM rfl rfl ?_
      refine u_st rfl (fun _ => rfl) ?_
      show u_P L xs n d m_X12_leaving 90 [(0, .ref 100), (1, .int a), (2, .int b)] [.int ((g_X12_laysLeaving (f_X12_takesSome a S) (g_X12_takesSome a S)) 99 102)] (g_X12_laysLeaving (f_X12_takesSome a S) (g_X12_takesSome a S)) R _
      exact u_ret rfl rfl ⟨_, rfl, rfl, by rw [f_X12_leaving, if_neg h1, if_pos h2], by rw [g_X12_leaving, if_neg h1, if_pos h2]⟩
    · show u_P L xs n d m_X12_leaving 17 [(0, .ref 100), (1, .int a), (2, .int b)] [] S R _
      refine u_st rfl (fun _ => rfl) ?_
      refine u_st rfl (fun _ => rfl) ?_
      show u_P L xs n d m_X12_leaving 20 [(0, .ref 100), (1, .int a), (2, .int b)] [.int (Int32.ofInt 21), .int b] S R _
      refine u_ic_eq rfl (fun h4 => ?_) (fun h4 => ?_)
      · show u_P L xs n d m_X12_leaving 45 [(0, .ref 100), (1, .int a), (2, .int b)] [] S R _
        refine u_st rfl (fun _ => rfl) ?_
        refine u_st rfl (fun _ => rfl) ?_
        refine u_st rfl (fun _ => rfl) ?_
        show u_P L xs n d m_X12_leaving 48 [(0, .ref 100), (1, .int a), (2, .int b)] [.int a, .ref 100, .ref 100] S R _
        refine u_cv (rest := [.ref 100]) rfl (by decide) mt_X12_takesSome v_tyM rfl rfl rfl (Nat.le_of_ble_eq_true rfl) (Nat.le_of_ble_eq_true rfl) (Nat.le_of_ble_eq_true rfl) (fun d' => c_X12_takesSome L xs n d' a S R) ?_
        rintro _ _ _ ⟨_, rfl, rfl, rfl, rfl⟩
        show u_P L xs n d m_X12_leaving 51 [(0, .ref 100), (1, .int a), (2, .int b)] [.int (f_X12_takesSome a S), .ref 100] (g_X12_takesSome a S) R _
        refine u_cv (rest := []) rfl (by decide) mt_X12_laysLeaving v_tyM rfl rfl rfl (Nat.le_of_ble_eq_true rfl) (Nat.le_of_ble_eq_true rfl) (Nat.le_of_ble_eq_true rfl) (fun d' => c_X12_laysLeaving L xs n d' (f_X12_takesSome a S) (g_X12_takesSome a S) R) ?_
        rintro _ _ _ ⟨rfl, rfl, rfl⟩
        refine u_st rfl (fun _ => rfl) ?_
        refine u_st rfl (fun _ => rfl) ?_
        show u_P L xs n d m_X12_leaving 57 [(0, .ref 100), (1, .int a), (2, .int b)] [.int (Int32.ofInt 20), .int b] (g_X12_laysLeaving (f_X12_takesSome a S) (g_X12_takesSome a S)) R _
        refine u_ic_ne rfl (fun _ => ?_) (fun h5 => absurd (h4.symm.trans (Classical.not_not.mp h5)) (by decide))
        show u_P L xs n d m_X12_leaving 67 [(0, .ref 100), (1, .int a), (2, .int b)] [] (g_X12_laysLeaving (f_X12_takesSome a S) (g_X12_takesSome a S)) R _
        refine u_st rfl (fun _ => rfl) ?_
        refine u_st rfl (fun _ => rfl) ?_
        show u_P L xs n d m_X12_leaving 70 [(0, .ref 100), (1, .int a), (2, .int b)] [.int (Int32.ofInt 21), .int b] (g_X12_laysLeaving (f_X12_takesSome a S) (g_X12_takesSome a S)) R _
        refine u_ic_ne rfl (fun h6 => absurd h4 h6) (fun _ => ?_)
        show u_P L xs n d m_X12_leaving 73 [(0, .ref 100), (1, .int a), (2, .int b)] [] (g_X12_laysLeaving (f_X12_takesSome a S) (g_X12_takesSome a S)) R _
        refine u_st rfl (fun _ => rfl) ?_
        show u_P L xs n d m_X12_leaving 74 [(0, .ref 100), (1, .int a), (2, .int b)] [.ref 100] (g_X12_laysLeaving (f_X12_takesSome a S) (g_X12_takesSome a S)) R _
        refine u_getE (v := (g_X12_laysLeaving (f_X12_takesSome a S) (g_X12_takesSome a S)) 99 103) rfl v_tyM rfl rfl ?_
        refine u_st rfl (fun _ => rfl) ?_
        show u_P L xs n d m_X12_leaving 90 [(0, .ref 100), (1, .int a), (2, .int b)] [.int ((g_X12_laysLeaving (f_X12_takesSome a S) (g_X12_takesSome a S)) 99 103)] (g_X12_laysLeaving (f_X12_takesSome a S) (g_X12_takesSome a S)) R _
        exact u_ret rfl rfl ⟨_, rfl, rfl, by rw [f_X12_leaving, if_neg h1, if_neg h2, if_pos h4], by rw [g_X12_leaving, if_neg h1, if_neg h2, if_pos h4]⟩
      · show u_P L xs n d m_X12_leaving 23 [(0, .ref 100), (1, .int a), (2, .int b)] [] S R _
        refine u_st rfl (fun _ => rfl) ?_
        refine u_st rfl (fun _ => rfl) ?_
        refine u_st rfl (fun _ => rfl) ?_
        refine u_st rfl (fun _ => rfl) ?_
        show u_P L xs n d m_X12_leaving 29 [(0, .ref 100), (1, .int a), (2, .int b)] [.long (Int64.ofInt 11), .long (Int64.ofNat 0), .long b.toInt64] S R _
        refine u_cs (ac := [.long b.toInt64, .long (Int64.ofNat 0), .long (Int64.ofInt 11)]) (rest := []) rfl (by decide) mt_X12_lies (fun _ => rfl) (Nat.le_of_ble_eq_true rfl) (Nat.le_of_ble_eq_true rfl) (fun d' => z_liesC L xs n d' b (Int64.ofNat 0) (Int64.ofInt 11) (lo := 0) (hi := 11) rfl rfl S R) ?_
        rintro _ _ _ ⟨_, rfl, rfl, rfl, rfl⟩
        show u_P L xs n d m_X12_leaving 32 [(0, .ref 100), (1, .int a), (2, .int b)] [.int (z_in b 0 11)] S R _
        refine u_if_eq rfl (fun h7 => ?_) (fun h7 => ?_)
        · show u_P L xs n d m_X12_leaving 43 [(0, .ref 100), (1, .int a), (2, .int b)] [] S R _
          refine u_st rfl (fun _ => rfl) ?_
          show u_P L xs n d m_X12_leaving 44 [(0, .ref 100), (1, .int a), (2, .int b)] [.int (Int32.ofInt (-1))] S R _
          exact u_ret rfl rfl ⟨_, rfl, rfl, by rw [f_X12_leaving, if_neg h1, if_neg h2, if_neg h4, if_pos h7], by rw [g_X12_leaving, if_neg h1, if_neg h2, if_neg h4, if_pos h7]⟩
        · show u_P L xs n d m_X12_leaving 35 [(0, .ref 100), (1, .int a), (2, .int b)] [] S R _
          refine u_st rfl (fun _ => rfl) ?_
          refine u_st rfl (fun _ => rfl) ?_
          show u_P L xs n d m_X12_leaving 37 [(0, .ref 100), (1, .int a), (2, .int b)] [.int b, .int a] S R _
          refine u_cs (ac := [.int a, .int b]) (rest := []) rfl (by decide) mt_X12_has (fun _ => rfl) (Nat.le_of_ble_eq_true rfl) (Nat.le_of_ble_eq_true rfl) (fun d' => c_X12_has L xs n d' a b S R) ?_
          rintro _ _ _ ⟨_, rfl, rfl, rfl, rfl⟩
          show u_P L xs n d m_X12_leaving 40 [(0, .ref 100), (1, .int a), (2, .int b)] [.int (f_X12_has a b)] S R _
          refine u_if_ne rfl (fun h8 => ?_) (fun h8 => ?_)
          · show u_P L xs n d m_X12_leaving 45 [(0, .ref 100), (1, .int a), (2, .int b)] [] S R _
            refine u_st rfl (fun _ => rfl) ?_
            refine u_st rfl (fun _ => rfl) ?_
            refine u_st rfl (fun _ => rfl) ?_
            show u_P L xs n d m_X12_leaving 48 [(0, .ref 100), (1, .int a), (2, .int b)] [.int a, .ref 100, .ref 100] S R _
            refine u_cv (rest := [.ref 100]) rfl (by decide) mt_X12_takesSome v_tyM rfl rfl rfl (Nat.le_of_ble_eq_true rfl) (Nat.le_of_ble_eq_true rfl) (Nat.le_of_ble_eq_true rfl) (fun d' => c_X12_takesSome L xs n d' a S R) ?_
            rintro _ _ _ ⟨_, rfl, rfl, rfl, rfl⟩
            show u_P L xs n d m_X12_leaving 51 [(0, .ref 100), (1, .int a), (2, .int b)] [.int (f_X12_takesSome a S), .ref 100] (g_X12_takesSome a S) R _
            refine u_cv (rest := []) rfl (by decide) mt_X12_laysLeaving v_tyM rfl rfl rfl (Nat.le_of_ble_eq_true rfl) (Nat.le_of_ble_eq_true rfl) (Nat.le_of_ble_eq_true rfl) (fun d' => c_X12_laysLeaving L xs n d' (f_X12_takesSome a S) (g_X12_takesSome a S) R) ?_
            rintro _ _ _ ⟨rfl, rfl, rfl⟩
            refine u_st rfl (fun _ => rfl) ?_
            refine u_st rfl (fun _ => rfl) ?_
            show u_P L xs n d m_X12_leaving 57 [(0, .ref 100), (1, .int a), (2, .int b)] [.int (Int32.ofInt 20), .int b] (g_X12_laysLeaving (f_X12_takesSome a S) (g_X12_takesSome a S)) R _
            refine u_ic_ne rfl (fun _ => ?_) (fun h9 => absurd h2 h9)
            show u_P L xs n d m_X12_leaving 67 [(0, .ref 100), (1, .int a), (2, .int b)] [] (g_X12_laysLeaving (f_X12_takesSome a S) (g_X12_takesSome a S)) R _
            refine u_st rfl (fun _ => rfl) ?_
            refine u_st rfl (fun _ => rfl) ?_
            show u_P L xs n d m_X12_leaving 70 [(0, .ref 100), (1, .int a), (2, .int b)] [.int (Int32.ofInt 21), .int b] (g_X12_laysLeaving (f_X12_takesSome a S) (g_X12_takesSome a S)) R _
            refine u_ic_ne rfl (fun _ => ?_) (fun h10 => absurd h4 h10)
            show u_P L xs n d m_X12_leaving 80 [(0, .ref 100), (1, .int a), (2, .int b)] [] (g_X12_laysLeaving (f_X12_takesSome a S) (g_X12_takesSome a S)) R _
            refine u_st rfl (fun _ => rfl) ?_
            show u_P L xs n d m_X12_leaving 81 [(0, .ref 100), (1, .int a), (2, .int b)] [.ref 100] (g_X12_laysLeaving (f_X12_takesSome a S) (g_X12_takesSome a S)) R _
            refine u_getr rfl v_tyM rfl ?_
            refine u_st rfl (fun _ => rfl) ?_
            refine u_st rfl (fun _ => rfl) ?_
            show u_P L xs n d m_X12_leaving 86 [(0, .ref 100), (1, .int a), (2, .int b)] [.int b, .int a, .ref 156] (g_X12_laysLeaving (f_X12_takesSome a S) (g_X12_takesSome a S)) R _
            refine u_cs (ac := [.int a, .int b]) (rest := [.ref 156]) rfl (by decide) mt_X12_placeIn (fun _ => rfl) (Nat.le_of_ble_eq_true rfl) (Nat.le_of_ble_eq_true rfl) (fun d' => c_X12_placeIn L xs n d' a b (g_X12_laysLeaving (f_X12_takesSome a S) (g_X12_takesSome a S)) R) ?_
            rintro _ _ _ ⟨_, rfl, rfl, rfl, rfl⟩
            show u_P L xs n d m_X12_leaving 89 [(0, .ref 100), (1, .int a), (2, .int b)] [.int (f_X12_placeIn a b), .ref 156] (g_X12_laysLeaving (f_X12_takesSome a S) (g_X12_takesSome a S)) R _
            refine u_ialdE (v := (g_X12_laysLeaving (f_X12_takesSome a S) (g_X12_takesSome a S)) 155 ((f_X12_placeIn a b).toInt.toNat)) rfl rfl rfl (fun b111 b112 => ?_)
            show u_P L xs n d m_X12_leaving 90 [(0, .ref 100), (1, .int a), (2, .int b)] [.int ((g_X12_laysLeaving (f_X12_takesSome a S) (g_X12_takesSome a S)) 155 ((f_X12_placeIn a b).toInt.toNat))] (g_X12_laysLeaving (f_X12_takesSome a S) (g_X12_takesSome a S)) R _
            exact u_ret rfl rfl ⟨_, rfl, rfl, by rw [f_X12_leaving, if_neg h1, if_neg h2, if_neg h4, if_neg h7, if_pos h8], by rw [g_X12_leaving, if_neg h1, if_neg h2, if_neg h4, if_neg h7, if_pos h8]⟩
          · show u_P L xs n d m_X12_leaving 43 [(0, .ref 100), (1, .int a), (2, .int b)] [] S R _
            refine u_st rfl (fun _ => rfl) ?_
            show u_P L xs n d m_X12_leaving 44 [(0, .ref 100), (1, .int a), (2, .int b)] [.int (Int32.ofInt (-1))] S R _
            exact u_ret rfl rfl ⟨_, rfl, rfl, by rw [f_X12_leaving, if_neg h1, if_neg h2, if_neg h4, if_neg h7, if_neg h8], by rw [g_X12_leaving, if_neg h1, if_neg h2, if_neg h4, if_neg h7, if_neg h8]⟩
end PrtS42q
