section PrtS42r
noncomputable def g_rdS (e : Nat) : Nat → Int32 → v_Sf → v_Sf
  | 0 => g_readSumF e (fun _ S => S)
  | f + 1 => g_readSumF e (g_rdS e f)
theorem c_rdS (L : Nat) (xs : Nat → Int32) {R : v_Rf} {e : Nat} (hE : R 66 1 = some (e + 1)) (he : z_cd e) : ∀ (f n d : Nat) (a : Int32) (S : v_Sf), 6 ≤ a.toInt + f → u_P L xs n d m_X5_readSum 0 (lv_args 0 [.ref 67, .int a]) [] S R (z_V R (fun S1 => g_rdS e f a S = S1)) := by
  intro f
  induction f with
  | zero =>
    intro n d a S h
    exact c_readSumF L xs n d hE he (fun _ => False) (fun _ S => S) (fun _ _ _ _ h => h.elim) a (fun q => by have := z_dp (B := 6) (by decide) q; omega) S
  | succ f ih =>
    intro n d a S h
    exact c_readSumF L xs n d hE he (fun i => 6 ≤ i.toInt + f) (g_rdS e f) (fun n d a S h => ih n d a S h) a (fun q => by have := z_dp (B := 6) (by decide) q; show 6 ≤ (a + Int32.ofInt 1).toInt + f; omega) S
noncomputable def g_rdX (e : Nat) : Nat → (Int32 → v_Sf → v_Sf) × (Int32 → v_Sf → v_Sf)
  | 0 => (g_readTestF e (fun _ S => S) (fun _ S => S) (fun _ S => S), g_readConditionF e (fun _ S => S) (fun _ S => S) (fun _ S => S))
  | f + 1 => (g_readTestF e (g_rdS e f) (g_rdX e f).1 (g_rdX e f).2, g_readConditionF e (g_rdS e f) (g_rdX e f).1 (g_rdX e f).2)
theorem c_rdX (L : Nat) (xs : Nat → Int32) {R : v_Rf} {e : Nat} (hE : R 66 1 = some (e + 1)) (he : z_cd e) : ∀ f : Nat, (∀ (n d : Nat) (a : Int32) (S : v_Sf), 6 ≤ a.toInt + f → u_P L xs n d m_X5_readTest 0 (lv_args 0 [.ref 67, .int a]) [] S R (z_V R (fun S1 => (g_rdX e f).1 a S = S1))) ∧ (∀ (n d : Nat) (a : Int32) (S : v_Sf), 6 ≤ a.toInt + f → u_P L xs n d m_X5_readCondition 0 (lv_args 0 [.ref 67, .int a]) [] S R (z_V R (fun S1 => (g_rdX e f).2 a S = S1))) := by
  intro f
  induction f with
  | zero =>
    refine ⟨?_, ?_⟩
    · intro n d a S h
      simp only [g_rdX]
      exact c_readTestF L xs n d hE he (fun _ => False) (fun _ S => S) (fun _ _ _ _ h => h.elim) (fun _ S => S) (fun _ _ _ _ h => h.elim) (fun _ S => S) (fun _ _ _ _ h => h.elim) a (fun q => by have := z_dp (B := 6) (by decide) q; omega) S
    · intro n d a S h
      simp only [g_rdX]
      exact c_readConditionF L xs n d hE he (fun _ => False) (fun _ S => S) (fun _ _ _ _ h => h.elim) (fun _ S => S) (fun _ _ _ _ h => h.elim) (fun _ S => S) (fun _ _ _ _ h => h.elim) a (fun q => by have := z_dp (B := 6) (by decide) q; omega) S
  | succ f ih =>
    refine ⟨?_, ?_⟩
    · intro n d a S h
      simp only [g_rdX]
      exact c_readTestF L xs n d hE he (fun i => 6 ≤ i.toInt + f) (g_rdS e f) (fun n d a S h => c_rdS L xs hE he f n d a S h) (g_rdX e f).1 (fun n d a S h => ih.1 n d a S h) (g_rdX e f).2 (fun n d a S h => ih.2 n d a S h) a (fun q => by have := z_dp (B := 6) (by decide) q; show 6 ≤ (a + Int32.ofInt 1).toInt + f; omega) S
    · intro n d a S h
      simp only [g_rdX]
      exact c_readConditionF L xs n d hE he (fun i => 6 ≤ i.toInt + f) (g_rdS e f) (fun n d a S h => c_rdS L xs hE he f n d a S h) (g_rdX e f).1 (fun n d a S h => ih.1 n d a S h) (g_rdX e f).2 (fun n d a S h => ih.2 n d a S h) a (fun q => by have := z_dp (B := 6) (by decide) q; show 6 ≤ (a + Int32.ofInt 1).toInt + f; omega) S
noncomputable def g_rdS6 (e : Nat) (a : Int32) (S : v_Sf) : v_Sf := g_rdS e 6 a S
theorem c_rdS6 (L : Nat) (xs : Nat → Int32) (n d : Nat) {R : v_Rf} {e : Nat} (hE : R 66 1 = some (e + 1)) (he : z_cd e) (a : Int32) (h : 0 ≤ a.toInt) (S : v_Sf) : u_P L xs n d m_X5_readSum 0 (lv_args 0 [.ref 67, .int a]) [] S R (z_V R (fun S1 => g_rdS6 e a S = S1)) := c_rdS L xs hE he 6 n d a S (by omega)
noncomputable def g_rdB6 (e : Nat) (a : Int32) (S : v_Sf) : v_Sf := g_readBracketF e (g_rdX e 5).2 a S
theorem c_rdB6 (L : Nat) (xs : Nat → Int32) (n d : Nat) {R : v_Rf} {e : Nat} (hE : R 66 1 = some (e + 1)) (he : z_cd e) (a : Int32) (h : 0 ≤ a.toInt) (S : v_Sf) : u_P L xs n d m_X5_readBracket 0 (lv_args 0 [.ref 67, .int a]) [] S R (z_V R (fun S1 => g_rdB6 e a S = S1)) := c_readBracketF L xs n d hE he (fun i => 6 ≤ i.toInt + 5) (g_rdX e 5).2 (fun n d a S h => (c_rdX L xs hE he 5).2 n d a S h) a (fun q => by have := z_dp (B := 6) (by decide) q; show 6 ≤ (a + Int32.ofInt 1).toInt + 5; omega) S
noncomputable abbrev m_X5_readWhole : g_M := (g_cn 5, yX5_readWhole, cX5_readWhole, 1, none, g_look2 ttX5_readWhole)
set_option maxRecDepth 20000 in
theorem mt_X5_readWhole : g_mt 69 = some m_X5_readWhole := rfl
noncomputable def g_X5_readWhole (e : Nat) (S : v_Sf) : v_Sf := g_X1_closeClause e (g_X1_put e (Int32.ofInt 0) (Int32.ofInt 0) (g_rdB6 e (Int32.ofInt 0) (g_X1_openCondition e S)))
set_option maxRecDepth 4000 in
theorem c_X5_readWhole (L : Nat) (xs : Nat → Int32) (n d : Nat) {R : v_Rf} {e : Nat} (hE : R 66 1 = some (e + 1)) (he : z_cd e) (S : v_Sf) : u_P L xs n d m_X5_readWhole 0 (lv_args 0 [.ref 67]) [] S R (z_V R (fun S1 => g_X5_readWhole e S = S1)) := by
  show u_P L xs n d m_X5_readWhole 0 [(0, .ref 67)] [] S R _
  refine u_st rfl (fun _ => rfl) ?_
  show u_P L xs n d m_X5_readWhole 1 [(0, .ref 67)] [.ref 67] S R _
  refine u_getv rfl rfl rfl hE ?_
  show u_P L xs n d m_X5_readWhole 4 [(0, .ref 67)] [.ref (e + 1)] S R _
  refine u_cv (rest := []) rfl (by decide) mt_X1_openCondition (z_cd0 he) rfl rfl rfl (Nat.le_of_ble_eq_true rfl) (Nat.le_of_ble_eq_true rfl) (Nat.le_of_ble_eq_true rfl) (fun d' => c_X1_openCondition L xs n d' e he S R) ?_
  rintro _ _ _ ⟨rfl, rfl, rfl⟩
  refine u_st rfl (fun _ => rfl) ?_
  refine u_st rfl (fun _ => rfl) ?_
  show u_P L xs n d m_X5_readWhole 9 [(0, .ref 67)] [.int (Int32.ofInt 0), .ref 67] (g_X1_openCondition e S) R _
  refine u_cv (rest := []) rfl (by decide) mt_X5_readBracket rfl rfl rfl rfl (Nat.le_of_ble_eq_true rfl) (Nat.le_of_ble_eq_true rfl) (Nat.le_of_ble_eq_true rfl) (fun d' => c_rdB6 L xs n d' hE he (Int32.ofInt 0) (by decide) (g_X1_openCondition e S)) ?_
  rintro _ _ _ ⟨rfl, rfl, rfl⟩
  refine u_st rfl (fun _ => rfl) ?_
  show u_P L xs n d m_X5_readWhole 13 [(0, .ref 67)] [.ref 67] (g_rdB6 e (Int32.ofInt 0) (g_X1_openCondition e S)) R _
  refine u_getv rfl rfl rfl hE ?_
  refine u_st rfl (fun _ => rfl) ?_
  refine u_st rfl (fun _ => rfl) ?_
  show u_P L xs n d m_X5_readWhole 18 [(0, .ref 67)] [.int (Int32.ofInt 0), .int (Int32.ofInt 0), .ref (e + 1)] (g_rdB6 e (Int32.ofInt 0) (g_X1_openCondition e S)) R _
  refine u_cv (rest := []) rfl (by decide) mt_X1_put (z_cd0 he) rfl rfl rfl (Nat.le_of_ble_eq_true rfl) (Nat.le_of_ble_eq_true rfl) (Nat.le_of_ble_eq_true rfl) (fun d' => c_X1_put L xs n d' e he (Int32.ofInt 0) (Int32.ofInt 0) (g_rdB6 e (Int32.ofInt 0) (g_X1_openCondition e S)) R) ?_
  rintro _ _ _ ⟨_, rfl, rfl, rfl, rfl⟩
  refine u_st rfl (fun _ => rfl) ?_
  refine u_st rfl (fun _ => rfl) ?_
  show u_P L xs n d m_X5_readWhole 23 [(0, .ref 67)] [.ref 67] (g_X1_put e (Int32.ofInt 0) (Int32.ofInt 0) (g_rdB6 e (Int32.ofInt 0) (g_X1_openCondition e S))) R _
  refine u_getv rfl rfl rfl hE ?_
  show u_P L xs n d m_X5_readWhole 26 [(0, .ref 67)] [.ref (e + 1)] (g_X1_put e (Int32.ofInt 0) (Int32.ofInt 0) (g_rdB6 e (Int32.ofInt 0) (g_X1_openCondition e S))) R _
  refine u_cv (rest := []) rfl (by decide) mt_X1_closeClause (z_cd0 he) rfl rfl rfl (Nat.le_of_ble_eq_true rfl) (Nat.le_of_ble_eq_true rfl) (Nat.le_of_ble_eq_true rfl) (fun d' => c_X1_closeClause L xs n d' e he (g_X1_put e (Int32.ofInt 0) (Int32.ofInt 0) (g_rdB6 e (Int32.ofInt 0) (g_X1_openCondition e S))) R) ?_
  rintro _ _ _ ⟨rfl, rfl, rfl⟩
  show u_P L xs n d m_X5_readWhole 29 [(0, .ref 67)] [] (g_X1_closeClause e (g_X1_put e (Int32.ofInt 0) (Int32.ofInt 0) (g_rdB6 e (Int32.ofInt 0) (g_X1_openCondition e S)))) R _
  exact u_ret rfl rfl ⟨rfl, rfl, rfl⟩
noncomputable abbrev m_X5_readClause : g_M := (g_cn 5, yX5_readClause, cX5_readClause, 4, none, g_look2 ttX5_readClause)
set_option maxRecDepth 20000 in
theorem mt_X5_readClause : g_mt 67 = some m_X5_readClause := rfl
noncomputable def g_X5_readClause (e : Nat) (S : v_Sf) : v_Sf := (if (f_X5_here S) = (Int32.ofInt 101) then (if (S e 7) < (Int32.ofInt 16) then g_X5_readWhole e (g_X1_openClause e (f_X5_here S) (z_s S 66 4 ((S 66 4) + (Int32.ofInt 1)))) else g_X5_fail (Int32.ofInt 4) (S 66 4) S) else (if ¬ (f_X5_here S) = (Int32.ofInt 120) then (if (f_X5_here S) = (Int32.ofInt 102) then (if (S e 7) < (Int32.ofInt 16) then g_X5_readWhole e (g_X1_put e (Int32.ofInt 0) (Int32.ofInt 0) (g_rdS6 e (Int32.ofInt 0) (g_X1_openClause e (f_X5_here S) (z_s S 66 4 ((S 66 4) + (Int32.ofInt 1)))))) else g_X5_fail (Int32.ofInt 4) (S 66 4) S) else (if (f_X5_here S) = (Int32.ofInt 103) then (if (S e 7) < (Int32.ofInt 16) then g_X5_readWhole e (g_X1_put e (Int32.ofInt 0) (Int32.ofInt 0) (g_rdS6 e (Int32.ofInt 0) (g_X1_openClause e (f_X5_here S) (z_s S 66 4 ((S 66 4) + (Int32.ofInt 1)))))) else g_X5_fail (Int32.ofInt 4) (S 66 4) S) else (if (f_X5_here S) = (Int32.ofInt 98) then (if (S e 7) < (Int32.ofInt 16) then g_X5_readWhole e (g_X1_put e (Int32.ofInt 0) (Int32.ofInt 0) (g_rdS6 e (Int32.ofInt 0) (g_X1_openClause e (f_X5_here S) (z_s S 66 4 ((S 66 4) + (Int32.ofInt 1)))))) else g_X5_fail (Int32.ofInt 4) (S 66 4) S) else (if ¬ (f_X5_here S) = (Int32.ofInt 105) then g_X5_fail (Int32.ofInt 1) (S 66 4) S else (if (S e 7) < (Int32.ofInt 16) then g_X5_readWhole e (g_X1_put e (Int32.ofInt 0) (Int32.ofInt 0) (g_rdS6 e (Int32.ofInt 0) (g_X1_openClause e (f_X5_here S) (z_s S 66 4 ((S 66 4) + (Int32.ofInt 1)))))) else g_X5_fail (Int32.ofInt 4) (S 66 4) S))))) else (if (S e 7) < (Int32.ofInt 16) then g_X5_readWhole e (g_X1_openClause e (f_X5_here S) (z_s S 66 4 ((S 66 4) + (Int32.ofInt 1)))) else g_X5_fail (Int32.ofInt 4) (S 66 4) S)))
set_option maxRecDepth 4000 in
theorem c_X5_readClause (L : Nat) (xs : Nat → Int32) (n d : Nat) {R : v_Rf} {e : Nat} (hE : R 66 1 = some (e + 1)) (he : z_cd e) (S : v_Sf) : u_P L xs n d m_X5_readClause 0 (lv_args 0 [.ref 67]) [] S R (z_V R (fun S1 => g_X5_readClause e S = S1)) := by
  show u_P L xs n d m_X5_readClause 0 [(0, .ref 67)] [] S R _
  refine u_st rfl (fun _ => rfl) ?_
  show u_P L xs n d m_X5_readClause 1 [(0, .ref 67)] [.ref 67] S R _
  refine u_cv (rest := []) rfl (by decide) mt_X5_here rfl rfl rfl rfl (Nat.le_of_ble_eq_true rfl) (Nat.le_of_ble_eq_true rfl) (Nat.le_of_ble_eq_true rfl) (fun d' => c_X5_here L xs n d' S R) ?_
  rintro _ _ _ ⟨_, rfl, rfl, rfl, rfl⟩
  refine u_st rfl (fun _ => rfl) ?_
  refine u_st rfl (fun _ => rfl) ?_
  refine u_st rfl (fun _ => rfl) ?_
  show u_P L xs n d m_X5_readClause 8 [(1, .int (f_X5_here S)), (0, .ref 67)] [.int (Int32.ofInt 101), .int (f_X5_here S)] S R _
  refine u_ic_eq rfl (fun h1 => ?_) (fun h1 => ?_)
  · show u_P L xs n d m_X5_readClause 17 [(1, .int (f_X5_here S)), (0, .ref 67)] [] S R _
    refine u_st rfl (fun _ => rfl) ?_
    refine u_st rfl (fun _ => rfl) ?_
    refine u_st rfl (fun _ => rfl) ?_
    refine u_st rfl (fun _ => rfl) ?_
    refine u_st rfl (fun _ => rfl) ?_
    show u_P L xs n d m_X5_readClause 26 [(2, .int (Int32.ofInt 1)), (1, .int (f_X5_here S)), (0, .ref 67)] [.int (Int32.ofInt 102), .int (f_X5_here S)] S R _
    refine u_ic_eq rfl (fun h2 => absurd (h1.symm.trans h2) (by decide)) (fun _ => ?_)
    show u_P L xs n d m_X5_readClause 29 [(2, .int (Int32.ofInt 1)), (1, .int (f_X5_here S)), (0, .ref 67)] [] S R _
    refine u_st rfl (fun _ => rfl) ?_
    refine u_st rfl (fun _ => rfl) ?_
    show u_P L xs n d m_X5_readClause 32 [(2, .int (Int32.ofInt 1)), (1, .int (f_X5_here S)), (0, .ref 67)] [.int (Int32.ofInt 103), .int (f_X5_here S)] S R _
    refine u_ic_eq rfl (fun h3 => absurd (h1.symm.trans h3) (by decide)) (fun _ => ?_)
    show u_P L xs n d m_X5_readClause 35 [(2, .int (Int32.ofInt 1)), (1, .int (f_X5_here S)), (0, .ref 67)] [] S R _
    refine u_st rfl (fun _ => rfl) ?_
    refine u_st rfl (fun _ => rfl) ?_
    show u_P L xs n d m_X5_readClause 38 [(2, .int (Int32.ofInt 1)), (1, .int (f_X5_here S)), (0, .ref 67)] [.int (Int32.ofInt 98), .int (f_X5_here S)] S R _
    refine u_ic_eq rfl (fun h4 => absurd (h1.symm.trans h4) (by decide)) (fun _ => ?_)
    show u_P L xs n d m_X5_readClause 41 [(2, .int (Int32.ofInt 1)), (1, .int (f_X5_here S)), (0, .ref 67)] [] S R _
    refine u_st rfl (fun _ => rfl) ?_
    refine u_st rfl (fun _ => rfl) ?_
    show u_P L xs n d m_X5_readClause 44 [(2, .int (Int32.ofInt 1)), (1, .int (f_X5_here S)), (0, .ref 67)] [.int (Int32.ofInt 105), .int (f_X5_here S)] S R _
    refine u_ic_ne rfl (fun _ => ?_) (fun h5 => absurd (h1.symm.trans (Classical.not_not.mp h5)) (by decide))
    show u_P L xs n d m_X5_readClause 51 [(2, .int (Int32.ofInt 1)), (1, .int (f_X5_here S)), (0, .ref 67)] [] S R _
    refine u_st rfl (fun _ => rfl) ?_
    refine u_st rfl (fun _ => rfl) ?_
    refine u_st rfl (fun _ => rfl) ?_
    show u_P L xs n d m_X5_readClause 54 [(3, .int (Int32.ofInt 0)), (2, .int (Int32.ofInt 1)), (1, .int (f_X5_here S)), (0, .ref 67)] [.int (Int32.ofInt 1)] S R _
    refine u_st rfl (fun _ => rfl) ?_
    refine u_st rfl (fun _ => rfl) ?_
    show u_P L xs n d m_X5_readClause 72 [(3, .int (Int32.ofInt 0)), (2, .int (Int32.ofInt 1)), (1, .int (f_X5_here S)), (0, .ref 67)] [.ref 67] S R _
    refine u_getv rfl rfl rfl hE ?_
    show u_P L xs n d m_X5_readClause 75 [(3, .int (Int32.ofInt 0)), (2, .int (Int32.ofInt 1)), (1, .int (f_X5_here S)), (0, .ref 67)] [.ref (e + 1)] S R _
    refine u_getE (v := S e 7) rfl (z_cd0 he) rfl rfl ?_
    refine u_st rfl (fun _ => rfl) ?_
    show u_P L xs n d m_X5_readClause 80 [(3, .int (Int32.ofInt 0)), (2, .int (Int32.ofInt 1)), (1, .int (f_X5_here S)), (0, .ref 67)] [.int (Int32.ofInt 16), .int (S e 7)] S R _
    refine u_ic_lt rfl (fun h6 => ?_) (fun h6 => ?_)
    · show u_P L xs n d m_X5_readClause 93 [(3, .int (Int32.ofInt 0)), (2, .int (Int32.ofInt 1)), (1, .int (f_X5_here S)), (0, .ref 67)] [] S R _
      refine u_st rfl (fun _ => rfl) ?_
      refine u_st rfl (fun _ => rfl) ?_
      show u_P L xs n d m_X5_readClause 95 [(3, .int (Int32.ofInt 0)), (2, .int (Int32.ofInt 1)), (1, .int (f_X5_here S)), (0, .ref 67)] [.ref 67, .ref 67] S R _
      refine u_getE (v := S 66 4) rfl rfl rfl rfl ?_
      refine u_st rfl (fun _ => rfl) ?_
      refine u_st rfl (fun _ => rfl) ?_
      show u_P L xs n d m_X5_readClause 100 [(3, .int (Int32.ofInt 0)), (2, .int (Int32.ofInt 1)), (1, .int (f_X5_here S)), (0, .ref 67)] [.int ((S 66 4) + (Int32.ofInt 1)), .ref 67] S R _
      refine u_put rfl rfl rfl ?_
      refine u_st rfl (fun _ => rfl) ?_
      show u_P L xs n d m_X5_readClause 104 [(3, .int (Int32.ofInt 0)), (2, .int (Int32.ofInt 1)), (1, .int (f_X5_here S)), (0, .ref 67)] [.ref 67] (z_s S 66 4 ((S 66 4) + (Int32.ofInt 1))) R _
      refine u_getv rfl rfl rfl hE ?_
      refine u_st rfl (fun _ => rfl) ?_
      show u_P L xs n d m_X5_readClause 108 [(3, .int (Int32.ofInt 0)), (2, .int (Int32.ofInt 1)), (1, .int (f_X5_here S)), (0, .ref 67)] [.int (f_X5_here S), .ref (e + 1)] (z_s S 66 4 ((S 66 4) + (Int32.ofInt 1))) R _
      refine u_cv (rest := []) rfl (by decide) mt_X1_openClause (z_cd0 he) rfl rfl rfl (Nat.le_of_ble_eq_true rfl) (Nat.le_of_ble_eq_true rfl) (Nat.le_of_ble_eq_true rfl) (fun d' => c_X1_openClause L xs n d' e he (f_X5_here S) (z_s S 66 4 ((S 66 4) + (Int32.ofInt 1))) R) ?_
      rintro _ _ _ ⟨rfl, rfl, rfl⟩
      refine u_st rfl (fun _ => rfl) ?_
      show u_P L xs n d m_X5_readClause 112 [(3, .int (Int32.ofInt 0)), (2, .int (Int32.ofInt 1)), (1, .int (f_X5_here S)), (0, .ref 67)] [.int (Int32.ofInt 0)] (g_X1_openClause e (f_X5_here S) (z_s S 66 4 ((S 66 4) + (Int32.ofInt 1)))) R _
      refine u_st rfl (fun _ => rfl) ?_
      refine u_st rfl (fun _ => rfl) ?_
      show u_P L xs n d m_X5_readClause 131 [(3, .int (Int32.ofInt 0)), (2, .int (Int32.ofInt 1)), (1, .int (f_X5_here S)), (0, .ref 67)] [.ref 67] (g_X1_openClause e (f_X5_here S) (z_s S 66 4 ((S 66 4) + (Int32.ofInt 1)))) R _
      refine u_cv (rest := []) rfl (by decide) mt_X5_readWhole rfl rfl rfl rfl (Nat.le_of_ble_eq_true rfl) (Nat.le_of_ble_eq_true rfl) (Nat.le_of_ble_eq_true rfl) (fun d' => c_X5_readWhole L xs n d' hE he (g_X1_openClause e (f_X5_here S) (z_s S 66 4 ((S 66 4) + (Int32.ofInt 1))))) ?_
      rintro _ _ _ ⟨rfl, rfl, rfl⟩
      show u_P L xs n d m_X5_readClause 134 [(3, .int (Int32.ofInt 0)), (2, .int (Int32.ofInt 1)), (1, .int (f_X5_here S)), (0, .ref 67)] [] (g_X5_readWhole e (g_X1_openClause e (f_X5_here S) (z_s S 66 4 ((S 66 4) + (Int32.ofInt 1))))) R _
      exact u_ret rfl rfl ⟨rfl, rfl, by rw [g_X5_readClause, if_pos h1, if_pos h6]⟩
    · show u_P L xs n d m_X5_readClause 83 [(3, .int (Int32.ofInt 0)), (2, .int (Int32.ofInt 1)), (1, .int (f_X5_here S)), (0, .ref 67)] [] S R _
      refine u_st rfl (fun _ => rfl) ?_
      refine u_st rfl (fun _ => rfl) ?_
      refine u_st rfl (fun _ => rfl) ?_
      show u_P L xs n d m_X5_readClause 86 [(3, .int (Int32.ofInt 0)), (2, .int (Int32.ofInt 1)), (1, .int (f_X5_here S)), (0, .ref 67)] [.ref 67, .int (Int32.ofInt 4), .ref 67] S R _
      refine u_getE (v := S 66 4) rfl rfl rfl rfl ?_
      show u_P L xs n d m_X5_readClause 89 [(3, .int (Int32.ofInt 0)), (2, .int (Int32.ofInt 1)), (1, .int (f_X5_here S)), (0, .ref 67)] [.int (S 66 4), .int (Int32.ofInt 4), .ref 67] S R _
      refine u_cv (rest := []) rfl (by decide) mt_X5_fail rfl rfl rfl rfl (Nat.le_of_ble_eq_true rfl) (Nat.le_of_ble_eq_true rfl) (Nat.le_of_ble_eq_true rfl) (fun d' => c_X5_fail L xs n d' (Int32.ofInt 4) (S 66 4) S R) ?_
      rintro _ _ _ ⟨rfl, rfl, rfl⟩
      show u_P L xs n d m_X5_readClause 92 [(3, .int (Int32.ofInt 0)), (2, .int (Int32.ofInt 1)), (1, .int (f_X5_here S)), (0, .ref 67)] [] (g_X5_fail (Int32.ofInt 4) (S 66 4) S) R _
      exact u_ret rfl rfl ⟨rfl, rfl, by rw [g_X5_readClause, if_pos h1, if_neg h6]⟩
  · show u_P L xs n d m_X5_readClause 11 [(1, .int (f_X5_here S)), (0, .ref 67)] [] S R _
    refine u_st rfl (fun _ => rfl) ?_
    refine u_st rfl (fun _ => rfl) ?_
    show u_P L xs n d m_X5_readClause 14 [(1, .int (f_X5_here S)), (0, .ref 67)] [.int (Int32.ofInt 120), .int (f_X5_here S)] S R _
    refine u_ic_ne rfl (fun h7 => ?_) (fun h7 => ?_)
    · show u_P L xs n d m_X5_readClause 21 [(1, .int (f_X5_here S)), (0, .ref 67)] [] S R _
      refine u_st rfl (fun _ => rfl) ?_
      refine u_st rfl (fun _ => rfl) ?_
      refine u_st rfl (fun _ => rfl) ?_
      refine u_st rfl (fun _ => rfl) ?_
      show u_P L xs n d m_X5_readClause 26 [(2, .int (Int32.ofInt 0)), (1, .int (f_X5_here S)), (0, .ref 67)] [.int (Int32.ofInt 102), .int (f_X5_here S)] S R _
      refine u_ic_eq rfl (fun h8 => ?_) (fun h8 => ?_)
      · show u_P L xs n d m_X5_readClause 47 [(2, .int (Int32.ofInt 0)), (1, .int (f_X5_here S)), (0, .ref 67)] [] S R _
        refine u_st rfl (fun _ => rfl) ?_
        refine u_st rfl (fun _ => rfl) ?_
        refine u_st rfl (fun _ => rfl) ?_
        refine u_st rfl (fun _ => rfl) ?_
        show u_P L xs n d m_X5_readClause 54 [(3, .int (Int32.ofInt 1)), (2, .int (Int32.ofInt 0)), (1, .int (f_X5_here S)), (0, .ref 67)] [.int (Int32.ofInt 0)] S R _
        refine u_st rfl (fun _ => rfl) ?_
        refine u_st rfl (fun _ => rfl) ?_
        show u_P L xs n d m_X5_readClause 58 [(3, .int (Int32.ofInt 1)), (2, .int (Int32.ofInt 0)), (1, .int (f_X5_here S)), (0, .ref 67)] [.int (Int32.ofInt 1)] S R _
        refine u_st rfl (fun _ => rfl) ?_
        refine u_st rfl (fun _ => rfl) ?_
        show u_P L xs n d m_X5_readClause 72 [(3, .int (Int32.ofInt 1)), (2, .int (Int32.ofInt 0)), (1, .int (f_X5_here S)), (0, .ref 67)] [.ref 67] S R _
        refine u_getv rfl rfl rfl hE ?_
        show u_P L xs n d m_X5_readClause 75 [(3, .int (Int32.ofInt 1)), (2, .int (Int32.ofInt 0)), (1, .int (f_X5_here S)), (0, .ref 67)] [.ref (e + 1)] S R _
        refine u_getE (v := S e 7) rfl (z_cd0 he) rfl rfl ?_
        refine u_st rfl (fun _ => rfl) ?_
        show u_P L xs n d m_X5_readClause 80 [(3, .int (Int32.ofInt 1)), (2, .int (Int32.ofInt 0)), (1, .int (f_X5_here S)), (0, .ref 67)] [.int (Int32.ofInt 16), .int (S e 7)] S R _
        refine u_ic_lt rfl (fun h9 => ?_) (fun h9 => ?_)
        · show u_P L xs n d m_X5_readClause 93 [(3, .int (Int32.ofInt 1)), (2, .int (Int32.ofInt 0)), (1, .int (f_X5_here S)), (0, .ref 67)] [] S R _
          refine u_st rfl (fun _ => rfl) ?_
          refine u_st rfl (fun _ => rfl) ?_
          show u_P L xs n d m_X5_readClause 95 [(3, .int (Int32.ofInt 1)), (2, .int (Int32.ofInt 0)), (1, .int (f_X5_here S)), (0, .ref 67)] [.ref 67, .ref 67] S R _
          refine u_getE (v := S 66 4) rfl rfl rfl rfl ?_
          refine u_st rfl (fun _ => rfl) ?_
          refine u_st rfl (fun _ => rfl) ?_
          show u_P L xs n d m_X5_readClause 100 [(3, .int (Int32.ofInt 1)), (2, .int (Int32.ofInt 0)), (1, .int (f_X5_here S)), (0, .ref 67)] [.int ((S 66 4) + (Int32.ofInt 1)), .ref 67] S R _
          refine u_put rfl rfl rfl ?_
          refine u_st rfl (fun _ => rfl) ?_
          show u_P L xs n d m_X5_readClause 104 [(3, .int (Int32.ofInt 1)), (2, .int (Int32.ofInt 0)), (1, .int (f_X5_here S)), (0, .ref 67)] [.ref 67] (z_s S 66 4 ((S 66 4) + (Int32.ofInt 1))) R _
          refine u_getv rfl rfl rfl hE ?_
          refine u_st rfl (fun _ => rfl) ?_
          show u_P L xs n d m_X5_readClause 108 [(3, .int (Int32.ofInt 1)), (2, .int (Int32.ofInt 0)), (1, .int (f_X5_here S)), (0, .ref 67)] [.int (f_X5_here S), .ref (e + 1)] (z_s S 66 4 ((S 66 4) + (Int32.ofInt 1))) R _
          refine u_cv (rest := []) rfl (by decide) mt_X1_openClause (z_cd0 he) rfl rfl rfl (Nat.le_of_ble_eq_true rfl) (Nat.le_of_ble_eq_true rfl) (Nat.le_of_ble_eq_true rfl) (fun d' => c_X1_openClause L xs n d' e he (f_X5_here S) (z_s S 66 4 ((S 66 4) + (Int32.ofInt 1))) R) ?_
          rintro _ _ _ ⟨rfl, rfl, rfl⟩
          refine u_st rfl (fun _ => rfl) ?_
          show u_P L xs n d m_X5_readClause 112 [(3, .int (Int32.ofInt 1)), (2, .int (Int32.ofInt 0)), (1, .int (f_X5_here S)), (0, .ref 67)] [.int (Int32.ofInt 1)] (g_X1_openClause e (f_X5_here S) (z_s S 66 4 ((S 66 4) + (Int32.ofInt 1)))) R _
          refine u_st rfl (fun _ => rfl) ?_
          refine u_st rfl (fun _ => rfl) ?_
          refine u_st rfl (fun _ => rfl) ?_
          show u_P L xs n d m_X5_readClause 117 [(3, .int (Int32.ofInt 1)), (2, .int (Int32.ofInt 0)), (1, .int (f_X5_here S)), (0, .ref 67)] [.int (Int32.ofInt 0), .ref 67] (g_X1_openClause e (f_X5_here S) (z_s S 66 4 ((S 66 4) + (Int32.ofInt 1)))) R _
          refine u_cv (rest := []) rfl (by decide) mt_X5_readSum rfl rfl rfl rfl (Nat.le_of_ble_eq_true rfl) (Nat.le_of_ble_eq_true rfl) (Nat.le_of_ble_eq_true rfl) (fun d' => c_rdS6 L xs n d' hE he (Int32.ofInt 0) (by decide) (g_X1_openClause e (f_X5_here S) (z_s S 66 4 ((S 66 4) + (Int32.ofInt 1))))) ?_
          rintro _ _ _ ⟨rfl, rfl, rfl⟩
          refine u_st rfl (fun _ => rfl) ?_
          show u_P L xs n d m_X5_readClause 121 [(3, .int (Int32.ofInt 1)), (2, .int (Int32.ofInt 0)), (1, .int (f_X5_here S)), (0, .ref 67)] [.ref 67] (g_rdS6 e (Int32.ofInt 0) (g_X1_openClause e (f_X5_here S) (z_s S 66 4 ((S 66 4) + (Int32.ofInt 1))))) R _
          refine u_getv rfl rfl rfl hE ?_
          refine u_st rfl (fun _ => rfl) ?_
          refine u_st rfl (fun _ => rfl) ?_
          show u_P L xs n d m_X5_readClause 126 [(3, .int (Int32.ofInt 1)), (2, .int (Int32.ofInt 0)), (1, .int (f_X5_here S)), (0, .ref 67)] [.int (Int32.ofInt 0), .int (Int32.ofInt 0), .ref (e + 1)] (g_rdS6 e (Int32.ofInt 0) (g_X1_openClause e (f_X5_here S) (z_s S 66 4 ((S 66 4) + (Int32.ofInt 1))))) R _
          refine u_cv (rest := []) rfl (by decide) mt_X1_put (z_cd0 he) rfl rfl rfl (Nat.le_of_ble_eq_true rfl) (Nat.le_of_ble_eq_true rfl) (Nat.le_of_ble_eq_true rfl) (fun d' => c_X1_put L xs n d' e he (Int32.ofInt 0) (Int32.ofInt 0) (g_rdS6 e (Int32.ofInt 0) (g_X1_openClause e (f_X5_here S) (z_s S 66 4 ((S 66 4) + (Int32.ofInt 1))))) R) ?_
          rintro _ _ _ ⟨_, rfl, rfl, rfl, rfl⟩
          refine u_st rfl (fun _ => rfl) ?_
          refine u_st rfl (fun _ => rfl) ?_
          show u_P L xs n d m_X5_readClause 131 [(3, .int (Int32.ofInt 1)), (2, .int (Int32.ofInt 0)), (1, .int (f_X5_here S)), (0, .ref 67)] [.ref 67] (g_X1_put e (Int32.ofInt 0) (Int32.ofInt 0) (g_rdS6 e (Int32.ofInt 0) (g_X1_openClause e (f_X5_here S) (z_s S 66 4 ((S 66 4) + (Int32.ofInt 1)))))) R _
          refine u_cv (rest := []) rfl (by decide) mt_X5_readWhole rfl rfl rfl rfl (Nat.le_of_ble_eq_true rfl) (Nat.le_of_ble_eq_true rfl) (Nat.le_of_ble_eq_true rfl) (fun d' => c_X5_readWhole L xs n d' hE he (g_X1_put e (Int32.ofInt 0) (Int32.ofInt 0) (g_rdS6 e (Int32.ofInt 0) (g_X1_openClause e (f_X5_here S) (z_s S 66 4 ((S 66 4) + (Int32.ofInt 1))))))) ?_
          rintro _ _ _ ⟨rfl, rfl, rfl⟩
          show u_P L xs n d m_X5_readClause 134 [(3, .int (Int32.ofInt 1)), (2, .int (Int32.ofInt 0)), (1, .int (f_X5_here S)), (0, .ref 67)] [] (g_X5_readWhole e (g_X1_put e (Int32.ofInt 0) (Int32.ofInt 0) (g_rdS6 e (Int32.ofInt 0) (g_X1_openClause e (f_X5_here S) (z_s S 66 4 ((S 66 4) + (Int32.ofInt 1))))))) R _
          exact u_ret rfl rfl ⟨rfl, rfl, by rw [g_X5_readClause, if_neg h1, if_pos h7, if_pos h8, if_pos h9]⟩
        · show u_P L xs n d m_X5_readClause 83 [(3, .int (Int32.ofInt 1)), (2, .int (Int32.ofInt 0)), (1, .int (f_X5_here S)), (0, .ref 67)] [] S R _
          refine u_st rfl (fun _ => rfl) ?_
          refine u_st rfl (fun _ => rfl) ?_
          refine u_st rfl (fun _ => rfl) ?_
          show u_P L xs n d m_X5_readClause 86 [(3, .int (Int32.ofInt 1)), (2, .int (Int32.ofInt 0)), (1, .int (f_X5_here S)), (0, .ref 67)] [.ref 67, .int (Int32.ofInt 4), .ref 67] S R _
          refine u_getE (v := S 66 4) rfl rfl rfl rfl ?_
          show u_P L xs n d m_X5_readClause 89 [(3, .int (Int32.ofInt 1)), (2, .int (Int32.ofInt 0)), (1, .int (f_X5_here S)), (0, .ref 67)] [.int (S 66 4), .int (Int32.ofInt 4), .ref 67] S R _
          refine u_cv (rest := []) rfl (by decide) mt_X5_fail rfl rfl rfl rfl (Nat.le_of_ble_eq_true rfl) (Nat.le_of_ble_eq_true rfl) (Nat.le_of_ble_eq_true rfl) (fun d' => c_X5_fail L xs n d' (Int32.ofInt 4) (S 66 4) S R) ?_
          rintro _ _ _ ⟨rfl, rfl, rfl⟩
          show u_P L xs n d m_X5_readClause 92 [(3, .int (Int32.ofInt 1)), (2, .int (Int32.ofInt 0)), (1, .int (f_X5_here S)), (0, .ref 67)] [] (g_X5_fail (Int32.ofInt 4) (S 66 4) S) R _
          exact u_ret rfl rfl ⟨rfl, rfl, by rw [g_X5_readClause, if_neg h1, if_pos h7, if_pos h8, if_neg h9]⟩
      · show u_P L xs n d m_X5_readClause 29 [(2, .int (Int32.ofInt 0)), (1, .int (f_X5_here S)), (0, .ref 67)] [] S R _
        refine u_st rfl (fun _ => rfl) ?_
        refine u_st rfl (fun _ => rfl) ?_
        show u_P L xs n d m_X5_readClause 32 [(2, .int (Int32.ofInt 0)), (1, .int (f_X5_here S)), (0, .ref 67)] [.int (Int32.ofInt 103), .int (f_X5_here S)] S R _
        refine u_ic_eq rfl (fun h10 => ?_) (fun h10 => ?_)
        · show u_P L xs n d m_X5_readClause 47 [(2, .int (Int32.ofInt 0)), (1, .int (f_X5_here S)), (0, .ref 67)] [] S R _
          refine u_st rfl (fun _ => rfl) ?_
          refine u_st rfl (fun _ => rfl) ?_
          refine u_st rfl (fun _ => rfl) ?_
          refine u_st rfl (fun _ => rfl) ?_
          show u_P L xs n d m_X5_readClause 54 [(3, .int (Int32.ofInt 1)), (2, .int (Int32.ofInt 0)), (1, .int (f_X5_here S)), (0, .ref 67)] [.int (Int32.ofInt 0)] S R _
          refine u_st rfl (fun _ => rfl) ?_
          refine u_st rfl (fun _ => rfl) ?_
          show u_P L xs n d m_X5_readClause 58 [(3, .int (Int32.ofInt 1)), (2, .int (Int32.ofInt 0)), (1, .int (f_X5_here S)), (0, .ref 67)] [.int (Int32.ofInt 1)] S R _
          refine u_st rfl (fun _ => rfl) ?_
          refine u_st rfl (fun _ => rfl) ?_
          show u_P L xs n d m_X5_readClause 72 [(3, .int (Int32.ofInt 1)), (2, .int (Int32.ofInt 0)), (1, .int (f_X5_here S)), (0, .ref 67)] [.ref 67] S R _
          refine u_getv rfl rfl rfl hE ?_
          show u_P L xs n d m_X5_readClause 75 [(3, .int (Int32.ofInt 1)), (2, .int (Int32.ofInt 0)), (1, .int (f_X5_here S)), (0, .ref 67)] [.ref (e + 1)] S R _
          refine u_getE (v := S e 7) rfl (z_cd0 he) rfl rfl ?_
          refine u_st rfl (fun _ => rfl) ?_
          show u_P L xs n d m_X5_readClause 80 [(3, .int (Int32.ofInt 1)), (2, .int (Int32.ofInt 0)), (1, .int (f_X5_here S)), (0, .ref 67)] [.int (Int32.ofInt 16), .int (S e 7)] S R _
          refine u_ic_lt rfl (fun h11 => ?_) (fun h11 => ?_)
          · show u_P L xs n d m_X5_readClause 93 [(3, .int (Int32.ofInt 1)), (2, .int (Int32.ofInt 0)), (1, .int (f_X5_here S)), (0, .ref 67)] [] S R _
            refine u_st rfl (fun _ => rfl) ?_
            refine u_st rfl (fun _ => rfl) ?_
            show u_P L xs n d m_X5_readClause 95 [(3, .int (Int32.ofInt 1)), (2, .int (Int32.ofInt 0)), (1, .int (f_X5_here S)), (0, .ref 67)] [.ref 67, .ref 67] S R _
            refine u_getE (v := S 66 4) rfl rfl rfl rfl ?_
            refine u_st rfl (fun _ => rfl) ?_
            refine u_st rfl (fun _ => rfl) ?_
            show u_P L xs n d m_X5_readClause 100 [(3, .int (Int32.ofInt 1)), (2, .int (Int32.ofInt 0)), (1, .int (f_X5_here S)), (0, .ref 67)] [.int ((S 66 4) + (Int32.ofInt 1)), .ref 67] S R _
            refine u_put rfl rfl rfl ?_
            refine u_st rfl (fun _ => rfl) ?_
            show u_P L xs n d m_X5_readClause 104 [(3, .int (Int32.ofInt 1)), (2, .int (Int32.ofInt 0)), (1, .int (f_X5_here S)), (0, .ref 67)] [.ref 67] (z_s S 66 4 ((S 66 4) + (Int32.ofInt 1))) R _
            refine u_getv rfl rfl rfl hE ?_
            refine u_st rfl (fun _ => rfl) ?_
            show u_P L xs n d m_X5_readClause 108 [(3, .int (Int32.ofInt 1)), (2, .int (Int32.ofInt 0)), (1, .int (f_X5_here S)), (0, .ref 67)] [.int (f_X5_here S), .ref (e + 1)] (z_s S 66 4 ((S 66 4) + (Int32.ofInt 1))) R _
            refine u_cv (rest := []) rfl (by decide) mt_X1_openClause (z_cd0 he) rfl rfl rfl (Nat.le_of_ble_eq_true rfl) (Nat.le_of_ble_eq_true rfl) (Nat.le_of_ble_eq_true rfl) (fun d' => c_X1_openClause L xs n d' e he (f_X5_here S) (z_s S 66 4 ((S 66 4) + (Int32.ofInt 1))) R) ?_
            rintro _ _ _ ⟨rfl, rfl, rfl⟩
            refine u_st rfl (fun _ => rfl) ?_
            show u_P L xs n d m_X5_readClause 112 [(3, .int (Int32.ofInt 1)), (2, .int (Int32.ofInt 0)), (1, .int (f_X5_here S)), (0, .ref 67)] [.int (Int32.ofInt 1)] (g_X1_openClause e (f_X5_here S) (z_s S 66 4 ((S 66 4) + (Int32.ofInt 1)))) R _
            refine u_st rfl (fun _ => rfl) ?_
            refine u_st rfl (fun _ => rfl) ?_
            refine u_st rfl (fun _ => rfl) ?_
            show u_P L xs n d m_X5_readClause 117 [(3, .int (Int32.ofInt 1)), (2, .int (Int32.ofInt 0)), (1, .int (f_X5_here S)), (0, .ref 67)] [.int (Int32.ofInt 0), .ref 67] (g_X1_openClause e (f_X5_here S) (z_s S 66 4 ((S 66 4) + (Int32.ofInt 1)))) R _
            refine u_cv (rest := []) rfl (by decide) mt_X5_readSum rfl rfl rfl rfl (Nat.le_of_ble_eq_true rfl) (Nat.le_of_ble_eq_true rfl) (Nat.le_of_ble_eq_true rfl) (fun d' => c_rdS6 L xs n d' hE he (Int32.ofInt 0) (by decide) (g_X1_openClause e (f_X5_here S) (z_s S 66 4 ((S 66 4) + (Int32.ofInt 1))))) ?_
            rintro _ _ _ ⟨rfl, rfl, rfl⟩
            refine u_st rfl (fun _ => rfl) ?_
            show u_P L xs n d m_X5_readClause 121 [(3, .int (Int32.ofInt 1)), (2, .int (Int32.ofInt 0)), (1, .int (f_X5_here S)), (0, .ref 67)] [.ref 67] (g_rdS6 e (Int32.ofInt 0) (g_X1_openClause e (f_X5_here S) (z_s S 66 4 ((S 66 4) + (Int32.ofInt 1))))) R _
            refine u_getv rfl rfl rfl hE ?_
            refine u_st rfl (fun _ => rfl) ?_
            refine u_st rfl (fun _ => rfl) ?_
            show u_P L xs n d m_X5_readClause 126 [(3, .int (Int32.ofInt 1)), (2, .int (Int32.ofInt 0)), (1, .int (f_X5_here S)), (0, .ref 67)] [.int (Int32.ofInt 0), .int (Int32.ofInt 0), .ref (e + 1)] (g_rdS6 e (Int32.ofInt 0) (g_X1_openClause e (f_X5_here S) (z_s S 66 4 ((S 66 4) + (Int32.ofInt 1))))) R _
            refine u_cv (rest := []) rfl (by decide) mt_X1_put (z_cd0 he) rfl rfl rfl (Nat.le_of_ble_eq_true rfl) (Nat.le_of_ble_eq_true rfl) (Nat.le_of_ble_eq_true rfl) (fun d' => c_X1_put L xs n d' e he (Int32.ofInt 0) (Int32.ofInt 0) (g_rdS6 e (Int32.ofInt 0) (g_X1_openClause e (f_X5_here S) (z_s S 66 4 ((S 66 4) + (Int32.ofInt 1))))) R) ?_
            rintro _ _ _ ⟨_, rfl, rfl, rfl, rfl⟩
            refine u_st rfl (fun _ => rfl) ?_
            refine u_st rfl (fun _ => rfl) ?_
            show u_P L xs n d m_X5_readClause 131 [(3, .int (Int32.ofInt 1)), (2, .int (Int32.ofInt 0)), (1, .int (f_X5_here S)), (0, .ref 67)] [.ref 67] (g_X1_put e (Int32.ofInt 0) (Int32.ofInt 0) (g_rdS6 e (Int32.ofInt 0) (g_X1_openClause e (f_X5_here S) (z_s S 66 4 ((S 66 4) + (Int32.ofInt 1)))))) R _
            refine u_cv (rest := []) rfl (by decide) mt_X5_readWhole rfl rfl rfl rfl (Nat.le_of_ble_eq_true rfl) (Nat.le_of_ble_eq_true rfl) (Nat.le_of_ble_eq_true rfl) (fun d' => c_X5_readWhole L xs n d' hE he (g_X1_put e (Int32.ofInt 0) (Int32.ofInt 0) (g_rdS6 e (Int32.ofInt 0) (g_X1_openClause e (f_X5_here S) (z_s S 66 4 ((S 66 4) + (Int32.ofInt 1))))))) ?_
            rintro _ _ _ ⟨rfl, rfl, rfl⟩
            show u_P L xs n d m_X5_readClause 134 [(3, .int (Int32.ofInt 1)), (2, .int (Int32.ofInt 0)), (1, .int (f_X5_here S)), (0, .ref 67)] [] (g_X5_readWhole e (g_X1_put e (Int32.ofInt 0) (Int32.ofInt 0) (g_rdS6 e (Int32.ofInt 0) (g_X1_openClause e (f_X5_here S) (z_s S 66 4 ((S 66 4) + (Int32.ofInt 1))))))) R _
            exact u_ret rfl rfl ⟨rfl, rfl, by rw [g_X5_readClause, if_neg h1, if_pos h7, if_neg h8, if_pos h10, if_pos h11]⟩
          · show u_P L xs n d m_X5_readClause 83 [(3, .int (Int32.ofInt 1)), (2, .int (Int32.ofInt 0)), (1, .int (f_X5_here S)), (0, .ref 67)] [] S R _
            refine u_st rfl (fun _ => rfl) ?_
            refine u_st rfl (fun _ => rfl) ?_
            refine u_st rfl (fun _ => rfl) ?_
            show u_P L xs n d m_X5_readClause 86 [(3, .int (Int32.ofInt 1)), (2, .int (Int32.ofInt 0)), (1, .int (f_X5_here S)), (0, .ref 67)] [.ref 67, .int (Int32.ofInt 4), .ref 67] S R _
            refine u_getE (v := S 66 4) rfl rfl rfl rfl ?_
            show u_P L xs n d m_X5_readClause 89 [(3, .int (Int32.ofInt 1)), (2, .int (Int32.ofInt 0)), (1, .int (f_X5_here S)), (0, .ref 67)] [.int (S 66 4), .int (Int32.ofInt 4), .ref 67] S R _
            refine u_cv (rest := []) rfl (by decide) mt_X5_fail rfl rfl rfl rfl (Nat.le_of_ble_eq_true rfl) (Nat.le_of_ble_eq_true rfl) (Nat.le_of_ble_eq_true rfl) (fun d' => c_X5_fail L xs n d' (Int32.ofInt 4) (S 66 4) S R) ?_
            rintro _ _ _ ⟨rfl, rfl, rfl⟩
            show u_P L xs n d m_X5_readClause 92 [(3, .int (Int32.ofInt 1)), (2, .int (Int32.ofInt 0)), (1, .int (f_X5_here S)), (0, .ref 67)] [] (g_X5_fail (Int32.ofInt 4) (S 66 4) S) R _
            exact u_ret rfl rfl ⟨rfl, rfl, by rw [g_X5_readClause, if_neg h1, if_pos h7, if_neg h8, if_pos h10, if_neg h11]⟩
        · show u_P L xs n d m_X5_readClause 35 [(2, .int (Int32.ofInt 0)), (1, .int (f_X5_here S)), (0, .ref 67)] [] S R _
          refine u_st rfl (fun _ => rfl) ?_
          refine u_st rfl (fun _ => rfl) ?_
          show u_P L xs n d m_X5_readClause 38 [(2, .int (Int32.ofInt 0)), (1, .int (f_X5_here S)), (0, .ref 67)] [.int (Int32.ofInt 98), .int (f_X5_here S)] S R _
          refine u_ic_eq rfl (fun h12 => ?_) (fun h12 => ?_)
          · show u_P L xs n d m_X5_readClause 47 [(2, .int (Int32.ofInt 0)), (1, .int (f_X5_here S)), (0, .ref 67)] [] S R _
            refine u_st rfl (fun _ => rfl) ?_
            refine u_st rfl (fun _ => rfl) ?_
            refine u_st rfl (fun _ => rfl) ?_
            refine u_st rfl (fun _ => rfl) ?_
            show u_P L xs n d m_X5_readClause 54 [(3, .int (Int32.ofInt 1)), (2, .int (Int32.ofInt 0)), (1, .int (f_X5_here S)), (0, .ref 67)] [.int (Int32.ofInt 0)] S R _
            refine u_st rfl (fun _ => rfl) ?_
            refine u_st rfl (fun _ => rfl) ?_
            show u_P L xs n d m_X5_readClause 58 [(3, .int (Int32.ofInt 1)), (2, .int (Int32.ofInt 0)), (1, .int (f_X5_here S)), (0, .ref 67)] [.int (Int32.ofInt 1)] S R _
            refine u_st rfl (fun _ => rfl) ?_
            refine u_st rfl (fun _ => rfl) ?_
            show u_P L xs n d m_X5_readClause 72 [(3, .int (Int32.ofInt 1)), (2, .int (Int32.ofInt 0)), (1, .int (f_X5_here S)), (0, .ref 67)] [.ref 67] S R _
            refine u_getv rfl rfl rfl hE ?_
            show u_P L xs n d m_X5_readClause 75 [(3, .int (Int32.ofInt 1)), (2, .int (Int32.ofInt 0)), (1, .int (f_X5_here S)), (0, .ref 67)] [.ref (e + 1)] S R _
            refine u_getE (v := S e 7) rfl (z_cd0 he) rfl rfl ?_
            refine u_st rfl (fun _ => rfl) ?_
            show u_P L xs n d m_X5_readClause 80 [(3, .int (Int32.ofInt 1)), (2, .int (Int32.ofInt 0)), (1, .int (f_X5_here S)), (0, .ref 67)] [.int (Int32.ofInt 16), .int (S e 7)] S R _
            refine u_ic_lt rfl (fun h13 => ?_) (fun h13 => ?_)
            · show u_P L xs n d m_X5_readClause 93 [(3, .int (Int32.ofInt 1)), (2, .int (Int32.ofInt 0)), (1, .int (f_X5_here S)), (0, .ref 67)] [] S R _
              refine u_st rfl (fun _ => rfl) ?_
              refine u_st rfl (fun _ => rfl) ?_
              show u_P L xs n d m_X5_readClause 95 [(3, .int (Int32.ofInt 1)), (2, .int (Int32.ofInt 0)), (1, .int (f_X5_here S)), (0, .ref 67)] [.ref 67, .ref 67] S R _
              refine u_getE (v := S 66 4) rfl rfl rfl rfl ?_
              refine u_st rfl (fun _ => rfl) ?_
              refine u_st rfl (fun _ => rfl) ?_
              show u_P L xs n d m_X5_readClause 100 [(3, .int (Int32.ofInt 1)), (2, .int (Int32.ofInt 0)), (1, .int (f_X5_here S)), (0, .ref 67)] [.int ((S 66 4) + (Int32.ofInt 1)), .ref 67] S R _
              refine u_put rfl rfl rfl ?_
              refine u_st rfl (fun _ => rfl) ?_
              show u_P L xs n d m_X5_readClause 104 [(3, .int (Int32.ofInt 1)), (2, .int (Int32.ofInt 0)), (1, .int (f_X5_here S)), (0, .ref 67)] [.ref 67] (z_s S 66 4 ((S 66 4) + (Int32.ofInt 1))) R _
              refine u_getv rfl rfl rfl hE ?_
              refine u_st rfl (fun _ => rfl) ?_
              show u_P L xs n d m_X5_readClause 108 [(3, .int (Int32.ofInt 1)), (2, .int (Int32.ofInt 0)), (1, .int (f_X5_here S)), (0, .ref 67)] [.int (f_X5_here S), .ref (e + 1)] (z_s S 66 4 ((S 66 4) + (Int32.ofInt 1))) R _
              refine u_cv (rest := []) rfl (by decide) mt_X1_openClause (z_cd0 he) rfl rfl rfl (Nat.le_of_ble_eq_true rfl) (Nat.le_of_ble_eq_true rfl) (Nat.le_of_ble_eq_true rfl) (fun d' => c_X1_openClause L xs n d' e he (f_X5_here S) (z_s S 66 4 ((S 66 4) + (Int32.ofInt 1))) R) ?_
              rintro _ _ _ ⟨rfl, rfl, rfl⟩
              refine u_st rfl (fun _ => rfl) ?_
              show u_P L xs n d m_X5_readClause 112 [(3, .int (Int32.ofInt 1)), (2, .int (Int32.ofInt 0)), (1, .int (f_X5_here S)), (0, .ref 67)] [.int (Int32.ofInt 1)] (g_X1_openClause e (f_X5_here S) (z_s S 66 4 ((S 66 4) + (Int32.ofInt 1)))) R _
              refine u_st rfl (fun _ => rfl) ?_
              refine u_st rfl (fun _ => rfl) ?_
              refine u_st rfl (fun _ => rfl) ?_
              show u_P L xs n d m_X5_readClause 117 [(3, .int (Int32.ofInt 1)), (2, .int (Int32.ofInt 0)), (1, .int (f_X5_here S)), (0, .ref 67)] [.int (Int32.ofInt 0), .ref 67] (g_X1_openClause e (f_X5_here S) (z_s S 66 4 ((S 66 4) + (Int32.ofInt 1)))) R _
              refine u_cv (rest := []) rfl (by decide) mt_X5_readSum rfl rfl rfl rfl (Nat.le_of_ble_eq_true rfl) (Nat.le_of_ble_eq_true rfl) (Nat.le_of_ble_eq_true rfl) (fun d' => c_rdS6 L xs n d' hE he (Int32.ofInt 0) (by decide) (g_X1_openClause e (f_X5_here S) (z_s S 66 4 ((S 66 4) + (Int32.ofInt 1))))) ?_
              rintro _ _ _ ⟨rfl, rfl, rfl⟩
              refine u_st rfl (fun _ => rfl) ?_
              show u_P L xs n d m_X5_readClause 121 [(3, .int (Int32.ofInt 1)), (2, .int (Int32.ofInt 0)), (1, .int (f_X5_here S)), (0, .ref 67)] [.ref 67] (g_rdS6 e (Int32.ofInt 0) (g_X1_openClause e (f_X5_here S) (z_s S 66 4 ((S 66 4) + (Int32.ofInt 1))))) R _
              refine u_getv rfl rfl rfl hE ?_
              refine u_st rfl (fun _ => rfl) ?_
              refine u_st rfl (fun _ => rfl) ?_
              show u_P L xs n d m_X5_readClause 126 [(3, .int (Int32.ofInt 1)), (2, .int (Int32.ofInt 0)), (1, .int (f_X5_here S)), (0, .ref 67)] [.int (Int32.ofInt 0), .int (Int32.ofInt 0), .ref (e + 1)] (g_rdS6 e (Int32.ofInt 0) (g_X1_openClause e (f_X5_here S) (z_s S 66 4 ((S 66 4) + (Int32.ofInt 1))))) R _
              refine u_cv (rest := []) rfl (by decide) mt_X1_put (z_cd0 he) rfl rfl rfl (Nat.le_of_ble_eq_true rfl) (Nat.le_of_ble_eq_true rfl) (Nat.le_of_ble_eq_true rfl) (fun d' => c_X1_put L xs n d' e he (Int32.ofInt 0) (Int32.ofInt 0) (g_rdS6 e (Int32.ofInt 0) (g_X1_openClause e (f_X5_here S) (z_s S 66 4 ((S 66 4) + (Int32.ofInt 1))))) R) ?_
              rintro _ _ _ ⟨_, rfl, rfl, rfl, rfl⟩
              refine u_st rfl (fun _ => rfl) ?_
              refine u_st rfl (fun _ => rfl) ?_
              show u_P L xs n d m_X5_readClause 131 [(3, .int (Int32.ofInt 1)), (2, .int (Int32.ofInt 0)), (1, .int (f_X5_here S)), (0, .ref 67)] [.ref 67] (g_X1_put e (Int32.ofInt 0) (Int32.ofInt 0) (g_rdS6 e (Int32.ofInt 0) (g_X1_openClause e (f_X5_here S) (z_s S 66 4 ((S 66 4) + (Int32.ofInt 1)))))) R _
              refine u_cv (rest := []) rfl (by decide) mt_X5_readWhole rfl rfl rfl rfl (Nat.le_of_ble_eq_true rfl) (Nat.le_of_ble_eq_true rfl) (Nat.le_of_ble_eq_true rfl) (fun d' => c_X5_readWhole L xs n d' hE he (g_X1_put e (Int32.ofInt 0) (Int32.ofInt 0) (g_rdS6 e (Int32.ofInt 0) (g_X1_openClause e (f_X5_here S) (z_s S 66 4 ((S 66 4) + (Int32.ofInt 1))))))) ?_
              rintro _ _ _ ⟨rfl, rfl, rfl⟩
              show u_P L xs n d m_X5_readClause 134 [(3, .int (Int32.ofInt 1)), (2, .int (Int32.ofInt 0)), (1, .int (f_X5_here S)), (0, .ref 67)] [] (g_X5_readWhole e (g_X1_put e (Int32.ofInt 0) (Int32.ofInt 0) (g_rdS6 e (Int32.ofInt 0) (g_X1_openClause e (f_X5_here S) (z_s S 66 4 ((S 66 4) + (Int32.ofInt 1))))))) R _
              exact u_ret rfl rfl ⟨rfl, rfl, by rw [g_X5_readClause, if_neg h1, if_pos h7, if_neg h8, if_neg h10, if_pos h12, if_pos h13]⟩
            · show u_P L xs n d m_X5_readClause 83 [(3, .int (Int32.ofInt 1)), (2, .int (Int32.ofInt 0)), (1, .int (f_X5_here S)), (0, .ref 67)] [] S R _
              refine u_st rfl (fun _ => rfl) ?_
              refine u_st rfl (fun _ => rfl) ?_
              refine u_st rfl (fun _ => rfl) ?_
              show u_P L xs n d m_X5_readClause 86 [(3, .int (Int32.ofInt 1)), (2, .int (Int32.ofInt 0)), (1, .int (f_X5_here S)), (0, .ref 67)] [.ref 67, .int (Int32.ofInt 4), .ref 67] S R _
              refine u_getE (v := S 66 4) rfl rfl rfl rfl ?_
              show u_P L xs n d m_X5_readClause 89 [(3, .int (Int32.ofInt 1)), (2, .int (Int32.ofInt 0)), (1, .int (f_X5_here S)), (0, .ref 67)] [.int (S 66 4), .int (Int32.ofInt 4), .ref 67] S R _
              refine u_cv (rest := []) rfl (by decide) mt_X5_fail rfl rfl rfl rfl (Nat.le_of_ble_eq_true rfl) (Nat.le_of_ble_eq_true rfl) (Nat.le_of_ble_eq_true rfl) (fun d' => c_X5_fail L xs n d' (Int32.ofInt 4) (S 66 4) S R) ?_
              rintro _ _ _ ⟨rfl, rfl, rfl⟩
              show u_P L xs n d m_X5_readClause 92 [(3, .int (Int32.ofInt 1)), (2, .int (Int32.ofInt 0)), (1, .int (f_X5_here S)), (0, .ref 67)] [] (g_X5_fail (Int32.ofInt 4) (S 66 4) S) R _
              exact u_ret rfl rfl ⟨rfl, rfl, by rw [g_X5_readClause, if_neg h1, if_pos h7, if_neg h8, if_neg h10, if_pos h12, if_neg h13]⟩
          · show u_P L xs n d m_X5_readClause 41 [(2, .int (Int32.ofInt 0)), (1, .int (f_X5_here S)), (0, .ref 67)] [] S R _
            refine u_st rfl (fun _ => rfl) ?_
            refine u_st rfl (fun _ => rfl) ?_
            show u_P L xs n d m_X5_readClause 44 [(2, .int (Int32.ofInt 0)), (1, .int (f_X5_here S)), (0, .ref 67)] [.int (Int32.ofInt 105), .int (f_X5_here S)] S R _
            refine u_ic_ne rfl (fun h14 => ?_) (fun h14 => ?_)
            · show u_P L xs n d m_X5_readClause 51 [(2, .int (Int32.ofInt 0)), (1, .int (f_X5_here S)), (0, .ref 67)] [] S R _
              refine u_st rfl (fun _ => rfl) ?_
              refine u_st rfl (fun _ => rfl) ?_
              refine u_st rfl (fun _ => rfl) ?_
              show u_P L xs n d m_X5_readClause 54 [(3, .int (Int32.ofInt 0)), (2, .int (Int32.ofInt 0)), (1, .int (f_X5_here S)), (0, .ref 67)] [.int (Int32.ofInt 0)] S R _
              refine u_st rfl (fun _ => rfl) ?_
              refine u_st rfl (fun _ => rfl) ?_
              show u_P L xs n d m_X5_readClause 58 [(3, .int (Int32.ofInt 0)), (2, .int (Int32.ofInt 0)), (1, .int (f_X5_here S)), (0, .ref 67)] [.int (Int32.ofInt 0)] S R _
              refine u_st rfl (fun _ => rfl) ?_
              refine u_st rfl (fun _ => rfl) ?_
              refine u_st rfl (fun _ => rfl) ?_
              refine u_st rfl (fun _ => rfl) ?_
              show u_P L xs n d m_X5_readClause 64 [(3, .int (Int32.ofInt 0)), (2, .int (Int32.ofInt 0)), (1, .int (f_X5_here S)), (0, .ref 67)] [.ref 67, .int (Int32.ofInt 1), .ref 67] S R _
              refine u_getE (v := S 66 4) rfl rfl rfl rfl ?_
              show u_P L xs n d m_X5_readClause 67 [(3, .int (Int32.ofInt 0)), (2, .int (Int32.ofInt 0)), (1, .int (f_X5_here S)), (0, .ref 67)] [.int (S 66 4), .int (Int32.ofInt 1), .ref 67] S R _
              refine u_cv (rest := []) rfl (by decide) mt_X5_fail rfl rfl rfl rfl (Nat.le_of_ble_eq_true rfl) (Nat.le_of_ble_eq_true rfl) (Nat.le_of_ble_eq_true rfl) (fun d' => c_X5_fail L xs n d' (Int32.ofInt 1) (S 66 4) S R) ?_
              rintro _ _ _ ⟨rfl, rfl, rfl⟩
              show u_P L xs n d m_X5_readClause 70 [(3, .int (Int32.ofInt 0)), (2, .int (Int32.ofInt 0)), (1, .int (f_X5_here S)), (0, .ref 67)] [] (g_X5_fail (Int32.ofInt 1) (S 66 4) S) R _
              exact u_ret rfl rfl ⟨rfl, rfl, by rw [g_X5_readClause, if_neg h1, if_pos h7, if_neg h8, if_neg h10, if_neg h12, if_pos h14]⟩
            · show u_P L xs n d m_X5_readClause 47 [(2, .int (Int32.ofInt 0)), (1, .int (f_X5_here S)), (0, .ref 67)] [] S R _
              refine u_st rfl (fun _ => rfl) ?_
              refine u_st rfl (fun _ => rfl) ?_
              refine u_st rfl (fun _ => rfl) ?_
              refine u_st rfl (fun _ => rfl) ?_
              show u_P L xs n d m_X5_readClause 54 [(3, .int (Int32.ofInt 1)), (2, .int (Int32.ofInt 0)), (1, .int (f_X5_here S)), (0, .ref 67)] [.int (Int32.ofInt 0)] S R _
              refine u_st rfl (fun _ => rfl) ?_
              refine u_st rfl (fun _ => rfl) ?_
              show u_P L xs n d m_X5_readClause 58 [(3, .int (Int32.ofInt 1)), (2, .int (Int32.ofInt 0)), (1, .int (f_X5_here S)), (0, .ref 67)] [.int (Int32.ofInt 1)] S R _
              refine u_st rfl (fun _ => rfl) ?_
              refine u_st rfl (fun _ => rfl) ?_
              show u_P L xs n d m_X5_readClause 72 [(3, .int (Int32.ofInt 1)), (2, .int (Int32.ofInt 0)), (1, .int (f_X5_here S)), (0, .ref 67)] [.ref 67] S R _
              refine u_getv rfl rfl rfl hE ?_
              show u_P L xs n d m_X5_readClause 75 [(3, .int (Int32.ofInt 1)), (2, .int (Int32.ofInt 0)), (1, .int (f_X5_here S)), (0, .ref 67)] [.ref (e + 1)] S R _
              refine u_getE (v := S e 7) rfl (z_cd0 he) rfl rfl ?_
              refine u_st rfl (fun _ => rfl) ?_
              show u_P L xs n d m_X5_readClause 80 [(3, .int (Int32.ofInt 1)), (2, .int (Int32.ofInt 0)), (1, .int (f_X5_here S)), (0, .ref 67)] [.int (Int32.ofInt 16), .int (S e 7)] S R _
              refine u_ic_lt rfl (fun h15 => ?_) (fun h15 => ?_)
              · show u_P L xs n d m_X5_readClause 93 [(3, .int (Int32.ofInt 1)), (2, .int (Int32.ofInt 0)), (1, .int (f_X5_here S)), (0, .ref 67)] [] S R _
                refine u_st rfl (fun _ => rfl) ?_
                refine u_st rfl (fun _ => rfl) ?_
                show u_P L xs n d m_X5_readClause 95 [(3, .int (Int32.ofInt 1)), (2, .int (Int32.ofInt 0)), (1, .int (f_X5_here S)), (0, .ref 67)] [.ref 67, .ref 67] S R _
                refine u_getE (v := S 66 4) rfl rfl rfl rfl ?_
                refine u_st rfl (fun _ => rfl) ?_
                refine u_st rfl (fun _ => rfl) ?_
                show u_P L xs n d m_X5_readClause 100 [(3, .int (Int32.ofInt 1)), (2, .int (Int32.ofInt 0)), (1, .int (f_X5_here S)), (0, .ref 67)] [.int ((S 66 4) + (Int32.ofInt 1)), .ref 67] S R _
                refine u_put rfl rfl rfl ?_
                refine u_st rfl (fun _ => rfl) ?_
                show u_P L xs n d m_X5_readClause 104 [(3, .int (Int32.ofInt 1)), (2, .int (Int32.ofInt 0)), (1, .int (f_X5_here S)), (0, .ref 67)] [.ref 67] (z_s S 66 4 ((S 66 4) + (Int32.ofInt 1))) R _
                refine u_getv rfl rfl rfl hE ?_
                refine u_st rfl (fun _ => rfl) ?_
                show u_P L xs n d m_X5_readClause 108 [(3, .int (Int32.ofInt 1)), (2, .int (Int32.ofInt 0)), (1, .int (f_X5_here S)), (0, .ref 67)] [.int (f_X5_here S), .ref (e + 1)] (z_s S 66 4 ((S 66 4) + (Int32.ofInt 1))) R _
                refine u_cv (rest := []) rfl (by decide) mt_X1_openClause (z_cd0 he) rfl rfl rfl (Nat.le_of_ble_eq_true rfl) (Nat.le_of_ble_eq_true rfl) (Nat.le_of_ble_eq_true rfl) (fun d' => c_X1_openClause L xs n d' e he (f_X5_here S) (z_s S 66 4 ((S 66 4) + (Int32.ofInt 1))) R) ?_
                rintro _ _ _ ⟨rfl, rfl, rfl⟩
                refine u_st rfl (fun _ => rfl) ?_
                show u_P L xs n d m_X5_readClause 112 [(3, .int (Int32.ofInt 1)), (2, .int (Int32.ofInt 0)), (1, .int (f_X5_here S)), (0, .ref 67)] [.int (Int32.ofInt 1)] (g_X1_openClause e (f_X5_here S) (z_s S 66 4 ((S 66 4) + (Int32.ofInt 1)))) R _
                refine u_st rfl (fun _ => rfl) ?_
                refine u_st rfl (fun _ => rfl) ?_
                refine u_st rfl (fun _ => rfl) ?_
                show u_P L xs n d m_X5_readClause 117 [(3, .int (Int32.ofInt 1)), (2, .int (Int32.ofInt 0)), (1, .int (f_X5_here S)), (0, .ref 67)] [.int (Int32.ofInt 0), .ref 67] (g_X1_openClause e (f_X5_here S) (z_s S 66 4 ((S 66 4) + (Int32.ofInt 1)))) R _
                refine u_cv (rest := []) rfl (by decide) mt_X5_readSum rfl rfl rfl rfl (Nat.le_of_ble_eq_true rfl) (Nat.le_of_ble_eq_true rfl) (Nat.le_of_ble_eq_true rfl) (fun d' => c_rdS6 L xs n d' hE he (Int32.ofInt 0) (by decide) (g_X1_openClause e (f_X5_here S) (z_s S 66 4 ((S 66 4) + (Int32.ofInt 1))))) ?_
                rintro _ _ _ ⟨rfl, rfl, rfl⟩
                refine u_st rfl (fun _ => rfl) ?_
                show u_P L xs n d m_X5_readClause 121 [(3, .int (Int32.ofInt 1)), (2, .int (Int32.ofInt 0)), (1, .int (f_X5_here S)), (0, .ref 67)] [.ref 67] (g_rdS6 e (Int32.ofInt 0) (g_X1_openClause e (f_X5_here S) (z_s S 66 4 ((S 66 4) + (Int32.ofInt 1))))) R _
                refine u_getv rfl rfl rfl hE ?_
                refine u_st rfl (fun _ => rfl) ?_
                refine u_st rfl (fun _ => rfl) ?_
                show u_P L xs n d m_X5_readClause 126 [(3, .int (Int32.ofInt 1)), (2, .int (Int32.ofInt 0)), (1, .int (f_X5_here S)), (0, .ref 67)] [.int (Int32.ofInt 0), .int (Int32.ofInt 0), .ref (e + 1)] (g_rdS6 e (Int32.ofInt 0) (g_X1_openClause e (f_X5_here S) (z_s S 66 4 ((S 66 4) + (Int32.ofInt 1))))) R _
                refine u_cv (rest := []) rfl (by decide) mt_X1_put (z_cd0 he) rfl rfl rfl (Nat.le_of_ble_eq_true rfl) (Nat.le_of_ble_eq_true rfl) (Nat.le_of_ble_eq_true rfl) (fun d' => c_X1_put L xs n d' e he (Int32.ofInt 0) (Int32.ofInt 0) (g_rdS6 e (Int32.ofInt 0) (g_X1_openClause e (f_X5_here S) (z_s S 66 4 ((S 66 4) + (Int32.ofInt 1))))) R) ?_
                rintro _ _ _ ⟨_, rfl, rfl, rfl, rfl⟩
                refine u_st rfl (fun _ => rfl) ?_
                refine u_st rfl (fun _ => rfl) ?_
                show u_P L xs n d m_X5_readClause 131 [(3, .int (Int32.ofInt 1)), (2, .int (Int32.ofInt 0)), (1, .int (f_X5_here S)), (0, .ref 67)] [.ref 67] (g_X1_put e (Int32.ofInt 0) (Int32.ofInt 0) (g_rdS6 e (Int32.ofInt 0) (g_X1_openClause e (f_X5_here S) (z_s S 66 4 ((S 66 4) + (Int32.ofInt 1)))))) R _
                refine u_cv (rest := []) rfl (by decide) mt_X5_readWhole rfl rfl rfl rfl (Nat.le_of_ble_eq_true rfl) (Nat.le_of_ble_eq_true rfl) (Nat.le_of_ble_eq_true rfl) (fun d' => c_X5_readWhole L xs n d' hE he (g_X1_put e (Int32.ofInt 0) (Int32.ofInt 0) (g_rdS6 e (Int32.ofInt 0) (g_X1_openClause e (f_X5_here S) (z_s S 66 4 ((S 66 4) + (Int32.ofInt 1))))))) ?_
                rintro _ _ _ ⟨rfl, rfl, rfl⟩
                show u_P L xs n d m_X5_readClause 134 [(3, .int (Int32.ofInt 1)), (2, .int (Int32.ofInt 0)), (1, .int (f_X5_here S)), (0, .ref 67)] [] (g_X5_readWhole e (g_X1_put e (Int32.ofInt 0) (Int32.ofInt 0) (g_rdS6 e (Int32.ofInt 0) (g_X1_openClause e (f_X5_here S) (z_s S 66 4 ((S 66 4) + (Int32.ofInt 1))))))) R _
                exact u_ret rfl rfl ⟨rfl, rfl, by rw [g_X5_readClause, if_neg h1, if_pos h7, if_neg h8, if_neg h10, if_neg h12, if_neg h14, if_pos h15]⟩
              · show u_P L xs n d m_X5_readClause 83 [(3, .int (Int32.ofInt 1)), (2, .int (Int32.ofInt 0)), (1, .int (f_X5_here S)), (0, .ref 67)] [] S R _
                refine u_st rfl (fun _ => rfl) ?_
                refine u_st rfl (fun _ => rfl) ?_
                refine u_st rfl (fun _ => rfl) ?_
                show u_P L xs n d m_X5_readClause 86 [(3, .int (Int32.ofInt 1)), (2, .int (Int32.ofInt 0)), (1, .int (f_X5_here S)), (0, .ref 67)] [.ref 67, .int (Int32.ofInt 4), .ref 67] S R _
                refine u_getE (v := S 66 4) rfl rfl rfl rfl ?_
                show u_P L xs n d m_X5_readClause 89 [(3, .int (Int32.ofInt 1)), (2, .int (Int32.ofInt 0)), (1, .int (f_X5_here S)), (0, .ref 67)] [.int (S 66 4), .int (Int32.ofInt 4), .ref 67] S R _
                refine u_cv (rest := []) rfl (by decide) mt_X5_fail rfl rfl rfl rfl (Nat.le_of_ble_eq_true rfl) (Nat.le_of_ble_eq_true rfl) (Nat.le_of_ble_eq_true rfl) (fun d' => c_X5_fail L xs n d' (Int32.ofInt 4) (S 66 4) S R) ?_
                rintro _ _ _ ⟨rfl, rfl, rfl⟩
                show u_P L xs n d m_X5_readClause 92 [(3, .int (Int32.ofInt 1)), (2, .int (Int32.ofInt 0)), (1, .int (f_X5_here S)), (0, .ref 67)] [] (g_X5_fail (Int32.ofInt 4) (S 66 4) S) R _
                exact u_ret rfl rfl ⟨rfl, rfl, by rw [g_X5_readClause, if_neg h1, if_pos h7, if_neg h8, if_neg h10, if_neg h12, if_neg h14, if_neg h15]⟩
    · show u_P L xs n d m_X5_readClause 17 [(1, .int (f_X5_here S)), (0, .ref 67)] [] S R _
      refine u_st rfl (fun _ => rfl) ?_
      refine u_st rfl (fun _ => rfl) ?_
      refine u_st rfl (fun _ => rfl) ?_
      refine u_st rfl (fun _ => rfl) ?_
      refine u_st rfl (fun _ => rfl) ?_
      show u_P L xs n d m_X5_readClause 26 [(2, .int (Int32.ofInt 1)), (1, .int (f_X5_here S)), (0, .ref 67)] [.int (Int32.ofInt 102), .int (f_X5_here S)] S R _
      refine u_ic_eq rfl (fun h16 => absurd ((Classical.not_not.mp h7).symm.trans h16) (by decide)) (fun _ => ?_)
      show u_P L xs n d m_X5_readClause 29 [(2, .int (Int32.ofInt 1)), (1, .int (f_X5_here S)), (0, .ref 67)] [] S R _
      refine u_st rfl (fun _ => rfl) ?_
      refine u_st rfl (fun _ => rfl) ?_
      show u_P L xs n d m_X5_readClause 32 [(2, .int (Int32.ofInt 1)), (1, .int (f_X5_here S)), (0, .ref 67)] [.int (Int32.ofInt 103), .int (f_X5_here S)] S R _
      refine u_ic_eq rfl (fun h17 => absurd ((Classical.not_not.mp h7).symm.trans h17) (by decide)) (fun _ => ?_)
      show u_P L xs n d m_X5_readClause 35 [(2, .int (Int32.ofInt 1)), (1, .int (f_X5_here S)), (0, .ref 67)] [] S R _
      refine u_st rfl (fun _ => rfl) ?_
      refine u_st rfl (fun _ => rfl) ?_
      show u_P L xs n d m_X5_readClause 38 [(2, .int (Int32.ofInt 1)), (1, .int (f_X5_here S)), (0, .ref 67)] [.int (Int32.ofInt 98), .int (f_X5_here S)] S R _
      refine u_ic_eq rfl (fun h18 => absurd ((Classical.not_not.mp h7).symm.trans h18) (by decide)) (fun _ => ?_)
      show u_P L xs n d m_X5_readClause 41 [(2, .int (Int32.ofInt 1)), (1, .int (f_X5_here S)), (0, .ref 67)] [] S R _
      refine u_st rfl (fun _ => rfl) ?_
      refine u_st rfl (fun _ => rfl) ?_
      show u_P L xs n d m_X5_readClause 44 [(2, .int (Int32.ofInt 1)), (1, .int (f_X5_here S)), (0, .ref 67)] [.int (Int32.ofInt 105), .int (f_X5_here S)] S R _
      refine u_ic_ne rfl (fun _ => ?_) (fun h19 => absurd ((Classical.not_not.mp h7).symm.trans (Classical.not_not.mp h19)) (by decide))
      show u_P L xs n d m_X5_readClause 51 [(2, .int (Int32.ofInt 1)), (1, .int (f_X5_here S)), (0, .ref 67)] [] S R _
      refine u_st rfl (fun _ => rfl) ?_
      refine u_st rfl (fun _ => rfl) ?_
      refine u_st rfl (fun _ => rfl) ?_
      show u_P L xs n d m_X5_readClause 54 [(3, .int (Int32.ofInt 0)), (2, .int (Int32.ofInt 1)), (1, .int (f_X5_here S)), (0, .ref 67)] [.int (Int32.ofInt 1)] S R _
      refine u_st rfl (fun _ => rfl) ?_
      refine u_st rfl (fun _ => rfl) ?_
      show u_P L xs n d m_X5_readClause 72 [(3, .int (Int32.ofInt 0)), (2, .int (Int32.ofInt 1)), (1, .int (f_X5_here S)), (0, .ref 67)] [.ref 67] S R _
      refine u_getv rfl rfl rfl hE ?_
      show u_P L xs n d m_X5_readClause 75 [(3, .int (Int32.ofInt 0)), (2, .int (Int32.ofInt 1)), (1, .int (f_X5_here S)), (0, .ref 67)] [.ref (e + 1)] S R _
      refine u_getE (v := S e 7) rfl (z_cd0 he) rfl rfl ?_
      refine u_st rfl (fun _ => rfl) ?_
      show u_P L xs n d m_X5_readClause 80 [(3, .int (Int32.ofInt 0)), (2, .int (Int32.ofInt 1)), (1, .int (f_X5_here S)), (0, .ref 67)] [.int (Int32.ofInt 16), .int (S e 7)] S R _
      refine u_ic_lt rfl (fun h20 => ?_) (fun h20 => ?_)
      · show u_P L xs n d m_X5_readClause 93 [(3, .int (Int32.ofInt 0)), (2, .int (Int32.ofInt 1)), (1, .int (f_X5_here S)), (0, .ref 67)] [] S R _
        refine u_st rfl (fun _ => rfl) ?_
        refine u_st rfl (fun _ => rfl) ?_
        show u_P L xs n d m_X5_readClause 95 [(3, .int (Int32.ofInt 0)), (2, .int (Int32.ofInt 1)), (1, .int (f_X5_here S)), (0, .ref 67)] [.ref 67, .ref 67] S R _
        refine u_getE (v := S 66 4) rfl rfl rfl rfl ?_
        refine u_st rfl (fun _ => rfl) ?_
        refine u_st rfl (fun _ => rfl) ?_
        show u_P L xs n d m_X5_readClause 100 [(3, .int (Int32.ofInt 0)), (2, .int (Int32.ofInt 1)), (1, .int (f_X5_here S)), (0, .ref 67)] [.int ((S 66 4) + (Int32.ofInt 1)), .ref 67] S R _
        refine u_put rfl rfl rfl ?_
        refine u_st rfl (fun _ => rfl) ?_
        show u_P L xs n d m_X5_readClause 104 [(3, .int (Int32.ofInt 0)), (2, .int (Int32.ofInt 1)), (1, .int (f_X5_here S)), (0, .ref 67)] [.ref 67] (z_s S 66 4 ((S 66 4) + (Int32.ofInt 1))) R _
        refine u_getv rfl rfl rfl hE ?_
        refine u_st rfl (fun _ => rfl) ?_
        show u_P L xs n d m_X5_readClause 108 [(3, .int (Int32.ofInt 0)), (2, .int (Int32.ofInt 1)), (1, .int (f_X5_here S)), (0, .ref 67)] [.int (f_X5_here S), .ref (e + 1)] (z_s S 66 4 ((S 66 4) + (Int32.ofInt 1))) R _
        refine u_cv (rest := []) rfl (by decide) mt_X1_openClause (z_cd0 he) rfl rfl rfl (Nat.le_of_ble_eq_true rfl) (Nat.le_of_ble_eq_true rfl) (Nat.le_of_ble_eq_true rfl) (fun d' => c_X1_openClause L xs n d' e he (f_X5_here S) (z_s S 66 4 ((S 66 4) + (Int32.ofInt 1))) R) ?_
        rintro _ _ _ ⟨rfl, rfl, rfl⟩
        refine u_st rfl (fun _ => rfl) ?_
        show u_P L xs n d m_X5_readClause 112 [(3, .int (Int32.ofInt 0)), (2, .int (Int32.ofInt 1)), (1, .int (f_X5_here S)), (0, .ref 67)] [.int (Int32.ofInt 0)] (g_X1_openClause e (f_X5_here S) (z_s S 66 4 ((S 66 4) + (Int32.ofInt 1)))) R _
        refine u_st rfl (fun _ => rfl) ?_
        refine u_st rfl (fun _ => rfl) ?_
        show u_P L xs n d m_X5_readClause 131 [(3, .int (Int32.ofInt 0)), (2, .int (Int32.ofInt 1)), (1, .int (f_X5_here S)), (0, .ref 67)] [.ref 67] (g_X1_openClause e (f_X5_here S) (z_s S 66 4 ((S 66 4) + (Int32.ofInt 1)))) R _
        refine u_cv (rest := []) rfl (by decide) mt_X5_readWhole rfl rfl rfl rfl (Nat.le_of_ble_eq_true rfl) (Nat.le_of_ble_eq_true rfl) (Nat.le_of_ble_eq_true rfl) (fun d' => c_X5_readWhole L xs n d' hE he (g_X1_openClause e (f_X5_here S) (z_s S 66 4 ((S 66 4) + (Int32.ofInt 1))))) ?_
        rintro _ _ _ ⟨rfl, rfl, rfl⟩
        show u_P L xs n d m_X5_readClause 134 [(3, .int (Int32.ofInt 0)), (2, .int (Int32.ofInt 1)), (1, .int (f_X5_here S)), (0, .ref 67)] [] (g_X5_readWhole e (g_X1_openClause e (f_X5_here S) (z_s S 66 4 ((S 66 4) + (Int32.ofInt 1))))) R _
        exact u_ret rfl rfl ⟨rfl, rfl, by rw [g_X5_readClause, if_neg h1, if_neg h7, if_pos h20]⟩
      · show u_P L xs n d m_X5_readClause 83 [(3, .int (Int32.ofInt 0)), (2, .int (Int32.ofInt 1)), (1, .int (f_X5_here S)), (0, .ref 67)] [] S R _
        refine u_st rfl (fun _ => rfl) ?_
        refine u_st rfl (fun _ => rfl) ?_
        refine u_st rfl (fun _ => rfl) ?_
        show u_P L xs n d m_X5_readClause 86 [(3, .int (Int32.ofInt 0)), (2, .int (Int32.ofInt 1)), (1, .int (f_X5_here S)), (0, .ref 67)] [.ref 67, .int (Int32.ofInt 4), .ref 67] S R _
        refine u_getE (v := S 66 4) rfl rfl rfl rfl ?_
        show u_P L xs n d m_X5_readClause 89 [(3, .int (Int32.ofInt 0)), (2, .int (Int32.ofInt 1)), (1, .int (f_X5_here S)), (0, .ref 67)] [.int (S 66 4), .int (Int32.ofInt 4), .ref 67] S R _
        refine u_cv (rest := []) rfl (by decide) mt_X5_fail rfl rfl rfl rfl (Nat.le_of_ble_eq_true rfl) (Nat.le_of_ble_eq_true rfl) (Nat.le_of_ble_eq_true rfl) (fun d' => c_X5_fail L xs n d' (Int32.ofInt 4) (S 66 4) S R) ?_
        rintro _ _ _ ⟨rfl, rfl, rfl⟩
        show u_P L xs n d m_X5_readClause 92 [(3, .int (Int32.ofInt 0)), (2, .int (Int32.ofInt 1)), (1, .int (f_X5_here S)), (0, .ref 67)] [] (g_X5_fail (Int32.ofInt 4) (S 66 4) S) R _
        exact u_ret rfl rfl ⟨rfl, rfl, by rw [g_X5_readClause, if_neg h1, if_neg h7, if_neg h20]⟩
noncomputable abbrev m_X5_readRule : g_M := (g_cn 5, yX5_readRule, cX5_readRule, 1, none, g_look2 ttX5_readRule)
set_option maxRecDepth 20000 in
theorem mt_X5_readRule : g_mt 68 = some m_X5_readRule := rfl
noncomputable def g_X5_readRule (e : Nat) (S : v_Sf) : v_Sf := (if ¬ (f_X5_here S) = (Int32.ofInt 40) then g_X5_readWhole e (g_X1_openClause e (Int32.ofInt 114) S) else (if (S e 7) < (Int32.ofInt 12) then g_X5_readWhole e (g_X1_openClause e (Int32.ofInt 114) S) else g_X5_fail (Int32.ofInt 4) (S 66 4) S))
set_option maxRecDepth 4000 in
theorem c_X5_readRule (L : Nat) (xs : Nat → Int32) (n d : Nat) {R : v_Rf} {e : Nat} (hE : R 66 1 = some (e + 1)) (he : z_cd e) (S : v_Sf) : u_P L xs n d m_X5_readRule 0 (lv_args 0 [.ref 67]) [] S R (z_V R (fun S1 => g_X5_readRule e S = S1)) := by
  show u_P L xs n d m_X5_readRule 0 [(0, .ref 67)] [] S R _
  refine u_st rfl (fun _ => rfl) ?_
  show u_P L xs n d m_X5_readRule 1 [(0, .ref 67)] [.ref 67] S R _
  refine u_cv (rest := []) rfl (by decide) mt_X5_here rfl rfl rfl rfl (Nat.le_of_ble_eq_true rfl) (Nat.le_of_ble_eq_true rfl) (Nat.le_of_ble_eq_true rfl) (fun d' => c_X5_here L xs n d' S R) ?_
  rintro _ _ _ ⟨_, rfl, rfl, rfl, rfl⟩
  refine u_st rfl (fun _ => rfl) ?_
  show u_P L xs n d m_X5_readRule 6 [(0, .ref 67)] [.int (Int32.ofInt 40), .int (f_X5_here S)] S R _
  refine u_ic_ne rfl (fun h1 => ?_) (fun h1 => ?_)
  · show u_P L xs n d m_X5_readRule 31 [(0, .ref 67)] [] S R _
    refine u_st rfl (fun _ => rfl) ?_
    show u_P L xs n d m_X5_readRule 32 [(0, .ref 67)] [.ref 67] S R _
    refine u_getv rfl rfl rfl hE ?_
    refine u_st rfl (fun _ => rfl) ?_
    show u_P L xs n d m_X5_readRule 37 [(0, .ref 67)] [.int (Int32.ofInt 114), .ref (e + 1)] S R _
    refine u_cv (rest := []) rfl (by decide) mt_X1_openClause (z_cd0 he) rfl rfl rfl (Nat.le_of_ble_eq_true rfl) (Nat.le_of_ble_eq_true rfl) (Nat.le_of_ble_eq_true rfl) (fun d' => c_X1_openClause L xs n d' e he (Int32.ofInt 114) S R) ?_
    rintro _ _ _ ⟨rfl, rfl, rfl⟩
    refine u_st rfl (fun _ => rfl) ?_
    show u_P L xs n d m_X5_readRule 41 [(0, .ref 67)] [.ref 67] (g_X1_openClause e (Int32.ofInt 114) S) R _
    refine u_cv (rest := []) rfl (by decide) mt_X5_readWhole rfl rfl rfl rfl (Nat.le_of_ble_eq_true rfl) (Nat.le_of_ble_eq_true rfl) (Nat.le_of_ble_eq_true rfl) (fun d' => c_X5_readWhole L xs n d' hE he (g_X1_openClause e (Int32.ofInt 114) S)) ?_
    rintro _ _ _ ⟨rfl, rfl, rfl⟩
    show u_P L xs n d m_X5_readRule 44 [(0, .ref 67)] [] (g_X5_readWhole e (g_X1_openClause e (Int32.ofInt 114) S)) R _
    exact u_ret rfl rfl ⟨rfl, rfl, by rw [g_X5_readRule, if_pos h1]⟩
  · show u_P L xs n d m_X5_readRule 9 [(0, .ref 67)] [] S R _
    refine u_st rfl (fun _ => rfl) ?_
    show u_P L xs n d m_X5_readRule 10 [(0, .ref 67)] [.ref 67] S R _
    refine u_getv rfl rfl rfl hE ?_
    show u_P L xs n d m_X5_readRule 13 [(0, .ref 67)] [.ref (e + 1)] S R _
    refine u_getE (v := S e 7) rfl (z_cd0 he) rfl rfl ?_
    refine u_st rfl (fun _ => rfl) ?_
    show u_P L xs n d m_X5_readRule 18 [(0, .ref 67)] [.int (Int32.ofInt 12), .int (S e 7)] S R _
    refine u_ic_lt rfl (fun h2 => ?_) (fun h2 => ?_)
    · show u_P L xs n d m_X5_readRule 31 [(0, .ref 67)] [] S R _
      refine u_st rfl (fun _ => rfl) ?_
      show u_P L xs n d m_X5_readRule 32 [(0, .ref 67)] [.ref 67] S R _
      refine u_getv rfl rfl rfl hE ?_
      refine u_st rfl (fun _ => rfl) ?_
      show u_P L xs n d m_X5_readRule 37 [(0, .ref 67)] [.int (Int32.ofInt 114), .ref (e + 1)] S R _
      refine u_cv (rest := []) rfl (by decide) mt_X1_openClause (z_cd0 he) rfl rfl rfl (Nat.le_of_ble_eq_true rfl) (Nat.le_of_ble_eq_true rfl) (Nat.le_of_ble_eq_true rfl) (fun d' => c_X1_openClause L xs n d' e he (Int32.ofInt 114) S R) ?_
      rintro _ _ _ ⟨rfl, rfl, rfl⟩
      refine u_st rfl (fun _ => rfl) ?_
      show u_P L xs n d m_X5_readRule 41 [(0, .ref 67)] [.ref 67] (g_X1_openClause e (Int32.ofInt 114) S) R _
      refine u_cv (rest := []) rfl (by decide) mt_X5_readWhole rfl rfl rfl rfl (Nat.le_of_ble_eq_true rfl) (Nat.le_of_ble_eq_true rfl) (Nat.le_of_ble_eq_true rfl) (fun d' => c_X5_readWhole L xs n d' hE he (g_X1_openClause e (Int32.ofInt 114) S)) ?_
      rintro _ _ _ ⟨rfl, rfl, rfl⟩
      show u_P L xs n d m_X5_readRule 44 [(0, .ref 67)] [] (g_X5_readWhole e (g_X1_openClause e (Int32.ofInt 114) S)) R _
      exact u_ret rfl rfl ⟨rfl, rfl, by rw [g_X5_readRule, if_neg h1, if_pos h2]⟩
    · show u_P L xs n d m_X5_readRule 21 [(0, .ref 67)] [] S R _
      refine u_st rfl (fun _ => rfl) ?_
      refine u_st rfl (fun _ => rfl) ?_
      refine u_st rfl (fun _ => rfl) ?_
      show u_P L xs n d m_X5_readRule 24 [(0, .ref 67)] [.ref 67, .int (Int32.ofInt 4), .ref 67] S R _
      refine u_getE (v := S 66 4) rfl rfl rfl rfl ?_
      show u_P L xs n d m_X5_readRule 27 [(0, .ref 67)] [.int (S 66 4), .int (Int32.ofInt 4), .ref 67] S R _
      refine u_cv (rest := []) rfl (by decide) mt_X5_fail rfl rfl rfl rfl (Nat.le_of_ble_eq_true rfl) (Nat.le_of_ble_eq_true rfl) (Nat.le_of_ble_eq_true rfl) (fun d' => c_X5_fail L xs n d' (Int32.ofInt 4) (S 66 4) S R) ?_
      rintro _ _ _ ⟨rfl, rfl, rfl⟩
      show u_P L xs n d m_X5_readRule 30 [(0, .ref 67)] [] (g_X5_fail (Int32.ofInt 4) (S 66 4) S) R _
      exact u_ret rfl rfl ⟨rfl, rfl, by rw [g_X5_readRule, if_neg h1, if_neg h2]⟩
noncomputable abbrev m_X5_readText : g_M := (g_cn 5, yX5_readText, cX5_readText, 4, (some .int), g_look2 ttX5_readText)
set_option maxRecDepth 20000 in
theorem mt_X5_readText : g_mt 60 = some m_X5_readText := rfl
noncomputable def D_X5_readText_7 (e : Nat) (H7 : Int32 → Int32 → v_Sf → Prop) (K : Int32 → v_Sf → Prop) (x2 : Int32) (x3 : Int32) (S : v_Sf) : Prop := (((Int32.ofInt 240) ≤ x3 → (((S 66 6) = 0 → K (S e 7) S) ∧ (¬ ((S 66 6) = 0) → K (S 66 6) S))) ∧ (¬ ((Int32.ofInt 240) ≤ x3) → ((x2 = 0 → ((((g_X5_readRule e S) 66 4) < ((g_X5_readRule e S) 66 5) → H7 x2 (x3 + (Int32.ofInt 1)) (g_X5_expect (Int32.ofInt 59) (g_X5_readRule e S))) ∧ (¬ (((g_X5_readRule e S) 66 4) < ((g_X5_readRule e S) 66 5)) → ((((g_X5_readRule e S) 66 6) = 0 → K ((g_X5_readRule e S) e 7) (g_X5_readRule e S)) ∧ (¬ (((g_X5_readRule e S) 66 6) = 0) → K ((g_X5_readRule e S) 66 6) (g_X5_readRule e S)))))) ∧ (¬ (x2 = 0) → ((((g_X5_readClause e S) 66 4) < ((g_X5_readClause e S) 66 5) → H7 x2 (x3 + (Int32.ofInt 1)) (g_X5_expect (Int32.ofInt 59) (g_X5_readClause e S))) ∧ (¬ (((g_X5_readClause e S) 66 4) < ((g_X5_readClause e S) 66 5)) → ((((g_X5_readClause e S) 66 6) = 0 → K ((g_X5_readClause e S) e 7) (g_X5_readClause e S)) ∧ (¬ (((g_X5_readClause e S) 66 6) = 0) → K ((g_X5_readClause e S) 66 6) (g_X5_readClause e S)))))))))
noncomputable def D_X5_readText (e : Nat) (a : Int32) (b : Int32) (H7 : Int32 → Int32 → v_Sf → Prop) (K : Int32 → v_Sf → Prop) (S : v_Sf) : Prop := H7 b (Int32.ofInt 0) (g_X5_begin e a S)
set_option maxRecDepth 4000 in
theorem hd_X5_readText (L : Nat) (xs : Nat → Int32) {R : v_Rf} {e : Nat} (hE : R 66 1 = some (e + 1)) (he : z_cd e) (a : Int32) (b : Int32) (H7 : Int32 → Int32 → v_Sf → Prop) (K : Int32 → v_Sf → Prop) (k7 : ∀ (x2 : Int32) (x3 : Int32) (S : v_Sf), H7 x2 x3 S → D_X5_readText_7 e H7 K x2 x3 S) : ∀ n, (∀ (d : Nat) (j1 : Int32) (x2 : Int32) (x3 : Int32) (S : v_Sf), H7 x2 x3 S → u_P L xs n d m_X5_readText 7 [(0, .ref 67), (1, .int j1), (2, .int x2), (3, .int x3)] [] S R (z_Q R K)) := by
  intro n
  induction n using Nat.strongRecOn with
  | ind n ih =>
    intro d j1 x2 x3 S hD
    have hD := k7 x2 x3 S hD
    unfold D_X5_readText_7 at hD
    show u_P L xs n d m_X5_readText 7 [(0, .ref 67), (1, .int j1), (2, .int x2), (3, .int x3)] [] S R _
    refine u_st1 rfl (fun _ => rfl) (fun m hm => ?_)
    refine u_st rfl (fun _ => rfl) ?_
    show u_P L xs m d m_X5_readText 11 [(0, .ref 67), (1, .int j1), (2, .int x2), (3, .int x3)] [.int (Int32.ofInt 240), .int x3] S R _
    refine u_ic_ge rfl (fun h1 => ?_) (fun h1 => ?_)
    · have hD := hD.1 h1
      show u_P L xs m d m_X5_readText 55 [(0, .ref 67), (1, .int j1), (2, .int x2), (3, .int x3)] [] S R _
      refine u_st rfl (fun _ => rfl) ?_
      show u_P L xs m d m_X5_readText 56 [(0, .ref 67), (1, .int j1), (2, .int x2), (3, .int x3)] [.ref 67] S R _
      refine u_getE (v := S 66 6) rfl rfl rfl rfl ?_
      show u_P L xs m d m_X5_readText 59 [(0, .ref 67), (1, .int j1), (2, .int x2), (3, .int x3)] [.int (S 66 6)] S R _
      refine u_if_eq rfl (fun h2 => ?_) (fun h2 => ?_)
      · have hD := hD.1 h2
        show u_P L xs m d m_X5_readText 69 [(0, .ref 67), (1, .int j1), (2, .int x2), (3, .int x3)] [] S R _
        refine u_st rfl (fun _ => rfl) ?_
        show u_P L xs m d m_X5_readText 70 [(0, .ref 67), (1, .int j1), (2, .int x2), (3, .int x3)] [.ref 67] S R _
        refine u_getv rfl rfl rfl hE ?_
        show u_P L xs m d m_X5_readText 73 [(0, .ref 67), (1, .int j1), (2, .int x2), (3, .int x3)] [.ref (e + 1)] S R _
        refine u_getE (v := S e 7) rfl (z_cd0 he) rfl rfl ?_
        show u_P L xs m d m_X5_readText 76 [(0, .ref 67), (1, .int j1), (2, .int x2), (3, .int x3)] [.int (S e 7)] S R _
        exact u_ret rfl rfl ⟨_, rfl, rfl, hD⟩
      · have hD := hD.2 h2
        show u_P L xs m d m_X5_readText 62 [(0, .ref 67), (1, .int j1), (2, .int x2), (3, .int x3)] [] S R _
        refine u_st rfl (fun _ => rfl) ?_
        show u_P L xs m d m_X5_readText 63 [(0, .ref 67), (1, .int j1), (2, .int x2), (3, .int x3)] [.ref 67] S R _
        refine u_getE (v := S 66 6) rfl rfl rfl rfl ?_
        refine u_st rfl (fun _ => rfl) ?_
        show u_P L xs m d m_X5_readText 76 [(0, .ref 67), (1, .int j1), (2, .int x2), (3, .int x3)] [.int (S 66 6)] S R _
        exact u_ret rfl rfl ⟨_, rfl, rfl, hD⟩
    · have hD := hD.2 h1
      show u_P L xs m d m_X5_readText 14 [(0, .ref 67), (1, .int j1), (2, .int x2), (3, .int x3)] [] S R _
      refine u_st rfl (fun _ => rfl) ?_
      show u_P L xs m d m_X5_readText 15 [(0, .ref 67), (1, .int j1), (2, .int x2), (3, .int x3)] [.int x2] S R _
      refine u_if_eq rfl (fun h3 => ?_) (fun h3 => ?_)
      · have hD := hD.1 h3
        show u_P L xs m d m_X5_readText 25 [(0, .ref 67), (1, .int j1), (2, .int x2), (3, .int x3)] [] S R _
        refine u_st rfl (fun _ => rfl) ?_
        show u_P L xs m d m_X5_readText 26 [(0, .ref 67), (1, .int j1), (2, .int x2), (3, .int x3)] [.ref 67] S R _
        refine u_cv (rest := []) rfl (by decide) mt_X5_readRule rfl rfl rfl rfl (Nat.le_of_ble_eq_true rfl) (Nat.le_of_ble_eq_true rfl) (Nat.le_of_ble_eq_true rfl) (fun d' => c_X5_readRule L xs m d' hE he S) ?_
        rintro _ _ _ ⟨rfl, rfl, rfl⟩
        refine u_st rfl (fun _ => rfl) ?_
        show u_P L xs m d m_X5_readText 30 [(0, .ref 67), (1, .int j1), (2, .int x2), (3, .int x3)] [.ref 67] (g_X5_readRule e S) R _
        refine u_getE (v := (g_X5_readRule e S) 66 4) rfl rfl rfl rfl ?_
        refine u_st rfl (fun _ => rfl) ?_
        show u_P L xs m d m_X5_readText 34 [(0, .ref 67), (1, .int j1), (2, .int x2), (3, .int x3)] [.ref 67, .int ((g_X5_readRule e S) 66 4)] (g_X5_readRule e S) R _
        refine u_getE (v := (g_X5_readRule e S) 66 5) rfl rfl rfl rfl ?_
        show u_P L xs m d m_X5_readText 37 [(0, .ref 67), (1, .int j1), (2, .int x2), (3, .int x3)] [.int ((g_X5_readRule e S) 66 5), .int ((g_X5_readRule e S) 66 4)] (g_X5_readRule e S) R _
        refine u_ic_lt rfl (fun h4 => ?_) (fun h4 => ?_)
        · have hD := hD.1 h4
          show u_P L xs m d m_X5_readText 43 [(0, .ref 67), (1, .int j1), (2, .int x2), (3, .int x3)] [] (g_X5_readRule e S) R _
          refine u_st rfl (fun _ => rfl) ?_
          refine u_st rfl (fun _ => rfl) ?_
          show u_P L xs m d m_X5_readText 46 [(0, .ref 67), (1, .int j1), (2, .int x2), (3, .int x3)] [.int (Int32.ofInt 59), .ref 67] (g_X5_readRule e S) R _
          refine u_cv (rest := []) rfl (by decide) mt_X5_expect rfl rfl rfl rfl (Nat.le_of_ble_eq_true rfl) (Nat.le_of_ble_eq_true rfl) (Nat.le_of_ble_eq_true rfl) (fun d' => c_X5_expect L xs m d' (Int32.ofInt 59) (g_X5_readRule e S) R) ?_
          rintro _ _ _ ⟨rfl, rfl, rfl⟩
          refine u_st rfl (fun _ => rfl) ?_
          refine u_st rfl (fun _ => rfl) ?_
          refine u_lc (b := [(0, .ref 67), (1, .int j1), (2, .int x2), (3, .int (x3 + (Int32.ofInt 1)))]) (show ([3, 0, 1, 2] : List Nat).Nodup by decide) (show ([0, 1, 2, 3] : List Nat).Nodup by decide) (fun i => match i with | 0 => rfl | 1 => rfl | 2 => rfl | 3 => rfl | _ + 4 => rfl) ?_
          exact (ih m hm) d j1 x2 (x3 + (Int32.ofInt 1)) (g_X5_expect (Int32.ofInt 59) (g_X5_readRule e S)) hD
        · have hD := hD.2 h4
          show u_P L xs m d m_X5_readText 40 [(0, .ref 67), (1, .int j1), (2, .int x2), (3, .int x3)] [] (g_X5_readRule e S) R _
          refine u_st rfl (fun _ => rfl) ?_
          refine u_st rfl (fun _ => rfl) ?_
          show u_P L xs m d m_X5_readText 56 [(0, .ref 67), (1, .int j1), (2, .int x2), (3, .int x3)] [.ref 67] (g_X5_readRule e S) R _
          refine u_getE (v := (g_X5_readRule e S) 66 6) rfl rfl rfl rfl ?_
          show u_P L xs m d m_X5_readText 59 [(0, .ref 67), (1, .int j1), (2, .int x2), (3, .int x3)] [.int ((g_X5_readRule e S) 66 6)] (g_X5_readRule e S) R _
          refine u_if_eq rfl (fun h5 => ?_) (fun h5 => ?_)
          · have hD := hD.1 h5
            show u_P L xs m d m_X5_readText 69 [(0, .ref 67), (1, .int j1), (2, .int x2), (3, .int x3)] [] (g_X5_readRule e S) R _
            refine u_st rfl (fun _ => rfl) ?_
            show u_P L xs m d m_X5_readText 70 [(0, .ref 67), (1, .int j1), (2, .int x2), (3, .int x3)] [.ref 67] (g_X5_readRule e S) R _
            refine u_getv rfl rfl rfl hE ?_
            show u_P L xs m d m_X5_readText 73 [(0, .ref 67), (1, .int j1), (2, .int x2), (3, .int x3)] [.ref (e + 1)] (g_X5_readRule e S) R _
            refine u_getE (v := (g_X5_readRule e S) e 7) rfl (z_cd0 he) rfl rfl ?_
            show u_P L xs m d m_X5_readText 76 [(0, .ref 67), (1, .int j1), (2, .int x2), (3, .int x3)] [.int ((g_X5_readRule e S) e 7)] (g_X5_readRule e S) R _
            exact u_ret rfl rfl ⟨_, rfl, rfl, hD⟩
          · have hD := hD.2 h5
            show u_P L xs m d m_X5_readText 62 [(0, .ref 67), (1, .int j1), (2, .int x2), (3, .int x3)] [] (g_X5_readRule e S) R _
            refine u_st rfl (fun _ => rfl) ?_
            show u_P L xs m d m_X5_readText 63 [(0, .ref 67), (1, .int j1), (2, .int x2), (3, .int x3)] [.ref 67] (g_X5_readRule e S) R _
            refine u_getE (v := (g_X5_readRule e S) 66 6) rfl rfl rfl rfl ?_
            refine u_st rfl (fun _ => rfl) ?_
            show u_P L xs m d m_X5_readText 76 [(0, .ref 67), (1, .int j1), (2, .int x2), (3, .int x3)] [.int ((g_X5_readRule e S) 66 6)] (g_X5_readRule e S) R _
            exact u_ret rfl rfl ⟨_, rfl, rfl, hD⟩
      · have hD := hD.2 h3
        show u_P L xs m d m_X5_readText 18 [(0, .ref 67), (1, .int j1), (2, .int x2), (3, .int x3)] [] S R _
        refine u_st rfl (fun _ => rfl) ?_
        show u_P L xs m d m_X5_readText 19 [(0, .ref 67), (1, .int j1), (2, .int x2), (3, .int x3)] [.ref 67] S R _
        refine u_cv (rest := []) rfl (by decide) mt_X5_readClause rfl rfl rfl rfl (Nat.le_of_ble_eq_true rfl) (Nat.le_of_ble_eq_true rfl) (Nat.le_of_ble_eq_true rfl) (fun d' => c_X5_readClause L xs m d' hE he S) ?_
        rintro _ _ _ ⟨rfl, rfl, rfl⟩
        refine u_st rfl (fun _ => rfl) ?_
        refine u_st rfl (fun _ => rfl) ?_
        show u_P L xs m d m_X5_readText 30 [(0, .ref 67), (1, .int j1), (2, .int x2), (3, .int x3)] [.ref 67] (g_X5_readClause e S) R _
        refine u_getE (v := (g_X5_readClause e S) 66 4) rfl rfl rfl rfl ?_
        refine u_st rfl (fun _ => rfl) ?_
        show u_P L xs m d m_X5_readText 34 [(0, .ref 67), (1, .int j1), (2, .int x2), (3, .int x3)] [.ref 67, .int ((g_X5_readClause e S) 66 4)] (g_X5_readClause e S) R _
        refine u_getE (v := (g_X5_readClause e S) 66 5) rfl rfl rfl rfl ?_
        show u_P L xs m d m_X5_readText 37 [(0, .ref 67), (1, .int j1), (2, .int x2), (3, .int x3)] [.int ((g_X5_readClause e S) 66 5), .int ((g_X5_readClause e S) 66 4)] (g_X5_readClause e S) R _
        refine u_ic_lt rfl (fun h6 => ?_) (fun h6 => ?_)
        · have hD := hD.1 h6
          show u_P L xs m d m_X5_readText 43 [(0, .ref 67), (1, .int j1), (2, .int x2), (3, .int x3)] [] (g_X5_readClause e S) R _
          refine u_st rfl (fun _ => rfl) ?_
          refine u_st rfl (fun _ => rfl) ?_
          show u_P L xs m d m_X5_readText 46 [(0, .ref 67), (1, .int j1), (2, .int x2), (3, .int x3)] [.int (Int32.ofInt 59), .ref 67] (g_X5_readClause e S) R _
          refine u_cv (rest := []) rfl (by decide) mt_X5_expect rfl rfl rfl rfl (Nat.le_of_ble_eq_true rfl) (Nat.le_of_ble_eq_true rfl) (Nat.le_of_ble_eq_true rfl) (fun d' => c_X5_expect L xs m d' (Int32.ofInt 59) (g_X5_readClause e S) R) ?_
          rintro _ _ _ ⟨rfl, rfl, rfl⟩
          refine u_st rfl (fun _ => rfl) ?_
          refine u_st rfl (fun _ => rfl) ?_
          refine u_lc (b := [(0, .ref 67), (1, .int j1), (2, .int x2), (3, .int (x3 + (Int32.ofInt 1)))]) (show ([3, 0, 1, 2] : List Nat).Nodup by decide) (show ([0, 1, 2, 3] : List Nat).Nodup by decide) (fun i => match i with | 0 => rfl | 1 => rfl | 2 => rfl | 3 => rfl | _ + 4 => rfl) ?_
          exact (ih m hm) d j1 x2 (x3 + (Int32.ofInt 1)) (g_X5_expect (Int32.ofInt 59) (g_X5_readClause e S)) hD
        · have hD := hD.2 h6
          show u_P L xs m d m_X5_readText 40 [(0, .ref 67), (1, .int j1), (2, .int x2), (3, .int x3)] [] (g_X5_readClause e S) R _
          refine u_st rfl (fun _ => rfl) ?_
          refine u_st rfl (fun _ => rfl) ?_
          show u_P L xs m d m_X5_readText 56 [(0, .ref 67), (1, .int j1), (2, .int x2), (3, .int x3)] [.ref 67] (g_X5_readClause e S) R _
          refine u_getE (v := (g_X5_readClause e S) 66 6) rfl rfl rfl rfl ?_
          show u_P L xs m d m_X5_readText 59 [(0, .ref 67), (1, .int j1), (2, .int x2), (3, .int x3)] [.int ((g_X5_readClause e S) 66 6)] (g_X5_readClause e S) R _
          refine u_if_eq rfl (fun h7 => ?_) (fun h7 => ?_)
          · have hD := hD.1 h7
            show u_P L xs m d m_X5_readText 69 [(0, .ref 67), (1, .int j1), (2, .int x2), (3, .int x3)] [] (g_X5_readClause e S) R _
            refine u_st rfl (fun _ => rfl) ?_
            show u_P L xs m d m_X5_readText 70 [(0, .ref 67), (1, .int j1), (2, .int x2), (3, .int x3)] [.ref 67] (g_X5_readClause e S) R _
            refine u_getv rfl rfl rfl hE ?_
            show u_P L xs m d m_X5_readText 73 [(0, .ref 67), (1, .int j1), (2, .int x2), (3, .int x3)] [.ref (e + 1)] (g_X5_readClause e S) R _
            refine u_getE (v := (g_X5_readClause e S) e 7) rfl (z_cd0 he) rfl rfl ?_
            show u_P L xs m d m_X5_readText 76 [(0, .ref 67), (1, .int j1), (2, .int x2), (3, .int x3)] [.int ((g_X5_readClause e S) e 7)] (g_X5_readClause e S) R _
            exact u_ret rfl rfl ⟨_, rfl, rfl, hD⟩
          · have hD := hD.2 h7
            show u_P L xs m d m_X5_readText 62 [(0, .ref 67), (1, .int j1), (2, .int x2), (3, .int x3)] [] (g_X5_readClause e S) R _
            refine u_st rfl (fun _ => rfl) ?_
            show u_P L xs m d m_X5_readText 63 [(0, .ref 67), (1, .int j1), (2, .int x2), (3, .int x3)] [.ref 67] (g_X5_readClause e S) R _
            refine u_getE (v := (g_X5_readClause e S) 66 6) rfl rfl rfl rfl ?_
            refine u_st rfl (fun _ => rfl) ?_
            show u_P L xs m d m_X5_readText 76 [(0, .ref 67), (1, .int j1), (2, .int x2), (3, .int x3)] [.int ((g_X5_readClause e S) 66 6)] (g_X5_readClause e S) R _
            exact u_ret rfl rfl ⟨_, rfl, rfl, hD⟩
set_option maxRecDepth 4000 in
theorem w_X5_readText (L : Nat) (xs : Nat → Int32) {R : v_Rf} {e : Nat} (hE : R 66 1 = some (e + 1)) (he : z_cd e) (a : Int32) (b : Int32) (H7 : Int32 → Int32 → v_Sf → Prop) (K : Int32 → v_Sf → Prop) (k7 : ∀ (x2 : Int32) (x3 : Int32) (S : v_Sf), H7 x2 x3 S → D_X5_readText_7 e H7 K x2 x3 S) (n d : Nat) (S : v_Sf) (hD : D_X5_readText e a b H7 K S) : u_P L xs n d m_X5_readText 0 (lv_args 0 [.ref 67, .int a, .int b]) [] S R (z_Q R K) := by
  unfold D_X5_readText at hD
  show u_P L xs n d m_X5_readText 0 [(0, .ref 67), (1, .int a), (2, .int b)] [] S R _
  refine u_st rfl (fun _ => rfl) ?_
  refine u_st rfl (fun _ => rfl) ?_
  show u_P L xs n d m_X5_readText 2 [(0, .ref 67), (1, .int a), (2, .int b)] [.int a, .ref 67] S R _
  refine u_cv (rest := []) rfl (by decide) mt_X5_begin rfl rfl rfl rfl (Nat.le_of_ble_eq_true rfl) (Nat.le_of_ble_eq_true rfl) (Nat.le_of_ble_eq_true rfl) (fun d' => c_X5_begin L xs n d' hE he a S) ?_
  rintro _ _ _ ⟨rfl, rfl, rfl⟩
  refine u_st rfl (fun _ => rfl) ?_
  refine u_st rfl (fun _ => rfl) ?_
  refine u_lc (b := [(0, .ref 67), (1, .int a), (2, .int b), (3, .int (Int32.ofInt 0))]) (show ([3, 0, 1, 2] : List Nat).Nodup by decide) (show ([0, 1, 2, 3] : List Nat).Nodup by decide) (fun i => match i with | 0 => rfl | 1 => rfl | 2 => rfl | 3 => rfl | _ + 4 => rfl) ?_
  exact (hd_X5_readText L xs hE he a b H7 K k7 n) d a b (Int32.ofInt 0) (g_X5_begin e a S) hD
noncomputable def r_X5_readText_7 (e : Nat) (x2 : Int32) : Nat → Nat → v_Sf → Int32 × v_Sf
  | 0, k7, S => (if (S 66 6) = 0 then (S e 7, S) else (S 66 6, S))
  | r + 1, k7, S => (if x2 = 0 then (if ((g_X5_readRule e S) 66 4) < ((g_X5_readRule e S) 66 5) then r_X5_readText_7 e x2 r (k7 + 1) (g_X5_expect (Int32.ofInt 59) (g_X5_readRule e S)) else (if ((g_X5_readRule e S) 66 6) = 0 then ((g_X5_readRule e S) e 7, g_X5_readRule e S) else ((g_X5_readRule e S) 66 6, g_X5_readRule e S))) else (if ((g_X5_readClause e S) 66 4) < ((g_X5_readClause e S) 66 5) then r_X5_readText_7 e x2 r (k7 + 1) (g_X5_expect (Int32.ofInt 59) (g_X5_readClause e S)) else (if ((g_X5_readClause e S) 66 6) = 0 then ((g_X5_readClause e S) e 7, g_X5_readClause e S) else ((g_X5_readClause e S) 66 6, g_X5_readClause e S))))
noncomputable def F_X5_readText (e : Nat) (a : Int32) (b : Int32) (S : v_Sf) : Int32 × v_Sf := r_X5_readText_7 e b (240 - 0) 0 (g_X5_begin e a S)
noncomputable def f_X5_readText (e : Nat) (a : Int32) (b : Int32) (S : v_Sf) : Int32 := (F_X5_readText e a b S).1
noncomputable def g_X5_readText (e : Nat) (a : Int32) (b : Int32) (S : v_Sf) : v_Sf := (F_X5_readText e a b S).2
theorem c_X5_readText (L : Nat) (xs : Nat → Int32) (n d : Nat) {R : v_Rf} {e : Nat} (hE : R 66 1 = some (e + 1)) (he : z_cd e) (a : Int32) (b : Int32) (S : v_Sf) : u_P L xs n d m_X5_readText 0 (lv_args 0 [.ref 67, .int a, .int b]) [] S R (z_Q R (fun v S1 => f_X5_readText e a b S = v ∧ g_X5_readText e a b S = S1)) := by
  refine w_X5_readText L xs hE he a b (fun y2 y3 T => ∃ (k7 : Nat), k7 ≤ 240 ∧ z_i k7 = y3 ∧ b = y2 ∧ r_X5_readText_7 e b (240 - k7) k7 T = F_X5_readText e a b S) (fun v S1 => f_X5_readText e a b S = v ∧ g_X5_readText e a b S = S1) ?_ n d S ?_
  · rintro _ _ S1 ⟨k7, hkk, rfl, rfl, e⟩
    unfold D_X5_readText_7
    rcases Nat.lt_or_ge k7 (240) with hk | hk
    · rw [show 240 - k7 = (240 - (k7 + 1)) + 1 by omega, r_X5_readText_7] at e
      refine ⟨fun q1 => ?_, fun q1 => ?_⟩
      · exact absurd hk (Nat.not_lt.mpr (z_leB2 (B := 240) q1 (by decide) (by omega)))
      · refine ⟨fun q2 => ?_, fun q2 => ?_⟩
        · refine ⟨fun q3 => ?_, fun q3 => ?_⟩
          · rw [if_pos q2, if_pos q3] at e
            exact ⟨(k7 + 1), by omega, (z_i1 k7).symm, rfl, e⟩
          · refine ⟨fun q4 => ?_, fun q4 => ?_⟩
            · rw [if_pos q2, if_neg q3, if_pos q4] at e
              have e1 := congrArg Prod.fst e.symm
              have e2 := congrArg Prod.snd e.symm
              exact ⟨e1, e2⟩
            · rw [if_pos q2, if_neg q3, if_neg q4] at e
              have e1 := congrArg Prod.fst e.symm
              have e2 := congrArg Prod.snd e.symm
              exact ⟨e1, e2⟩
        · refine ⟨fun q5 => ?_, fun q5 => ?_⟩
          · rw [if_neg q2, if_pos q5] at e
            exact ⟨(k7 + 1), by omega, (z_i1 k7).symm, rfl, e⟩
          · refine ⟨fun q6 => ?_, fun q6 => ?_⟩
            · rw [if_neg q2, if_neg q5, if_pos q6] at e
              have e1 := congrArg Prod.fst e.symm
              have e2 := congrArg Prod.snd e.symm
              exact ⟨e1, e2⟩
            · rw [if_neg q2, if_neg q5, if_neg q6] at e
              have e1 := congrArg Prod.fst e.symm
              have e2 := congrArg Prod.snd e.symm
              exact ⟨e1, e2⟩
    · rw [show 240 - k7 = 0 by omega, r_X5_readText_7] at e
      refine ⟨fun q7 => ?_, fun q7 => ?_⟩
      · refine ⟨fun q8 => ?_, fun q8 => ?_⟩
        · rw [if_pos q8] at e
          have e1 := congrArg Prod.fst e.symm
          have e2 := congrArg Prod.snd e.symm
          exact ⟨e1, e2⟩
        · rw [if_neg q8] at e
          have e1 := congrArg Prod.fst e.symm
          have e2 := congrArg Prod.snd e.symm
          exact ⟨e1, e2⟩
      · exact absurd hk (Nat.not_le.mpr (z_ltB2 (B := 240) q7 (by decide) (by omega)))
  · unfold D_X5_readText
    have e : r_X5_readText_7 e b (240 - 0) 0 (g_X5_begin e a S) = F_X5_readText e a b S := by rw [F_X5_readText]
    exact ⟨0, by omega, rfl, rfl, e⟩
noncomputable abbrev m_X3_exchangeLaw : g_M := (g_cn 3, yX3_exchangeLaw, cX3_exchangeLaw, 3, (some (.object "GustHome$Code")), g_look2 ttX3_exchangeLaw)
set_option maxRecDepth 20000 in
theorem mt_X3_exchangeLaw : g_mt 31 = some m_X3_exchangeLaw := rfl
theorem c_X3_exchangeLaw (L : Nat) (xs : Nat → Int32) (n d : Nat) {R : v_Rf} {c : Nat} (hL : R 50 2 = some (c + 1)) (e : Nat) (S : v_Sf) : u_P L xs n d m_X3_exchangeLaw 0 (lv_args 0 [.ref 51, .ref (e + 1)]) [] S R (fun r S1 R1 => some (.ref (c + 1)) = r ∧ S = S1 ∧ v_urr R 50 2 (e + 1) = R1) := by
  show u_P L xs n d m_X3_exchangeLaw 0 [(0, .ref 51), (1, .ref (e + 1))] [] S R _
  refine u_st rfl (fun _ => rfl) ?_
  show u_P L xs n d m_X3_exchangeLaw 1 [(0, .ref 51), (1, .ref (e + 1))] [.ref 51] S R _
  refine u_getv rfl rfl rfl hL ?_
  refine u_st rfl (fun _ => rfl) ?_
  refine u_st rfl (fun _ => rfl) ?_
  refine u_st rfl (fun _ => rfl) ?_
  show u_P L xs n d m_X3_exchangeLaw 7 [(2, .ref (c + 1)), (0, .ref 51), (1, .ref (e + 1))] [.ref (e + 1), .ref 51] S R _
  refine u_putR rfl rfl rfl ?_
  refine u_st rfl (fun _ => rfl) ?_
  exact u_ret rfl rfl ⟨rfl, rfl, rfl⟩
noncomputable abbrev m_X11_law : g_M := (g_cn 11, yX11_law, cX11_law, 3, (some .int), g_look2 ttX11_law)
set_option maxRecDepth 20000 in
theorem mt_X11_law : g_mt 123 = some m_X11_law := rfl
noncomputable def f_X11_law (c : Nat) (e : Nat) (a : Int32) (S : v_Sf) : Int32 := (if a < (Int32.ofInt 1) then Int32.ofInt (-1) else (if (Int32.ofInt 240) < a then Int32.ofInt (-1) else (if a ≤ (S 45 1) then (if (f_X5_readText e a (Int32.ofInt 1) S) ≤ 0 then f_X5_readText e a (Int32.ofInt 1) S else f_X5_readText e a (Int32.ofInt 1) S) else Int32.ofInt (-1))))
noncomputable def g_X11_law (c : Nat) (e : Nat) (a : Int32) (S : v_Sf) : v_Sf := (if a < (Int32.ofInt 1) then S else (if (Int32.ofInt 240) < a then S else (if a ≤ (S 45 1) then g_X8_empty (g_X5_readText e a (Int32.ofInt 1) S) else S)))
set_option maxRecDepth 4000 in
theorem c_X11_law (L : Nat) (xs : Nat → Int32) (n d : Nat) {R : v_Rf} {c : Nat} (hL : R 50 2 = some (c + 1)) (hc : z_cd c) {e : Nat} (hE : R 66 1 = some (e + 1)) (he : z_cd e) (a : Int32) (S : v_Sf) : u_P L xs n d m_X11_law 0 (lv_args 0 [.ref 1, .int a]) [] S R (z_QR R (v_urr (v_urr R 50 2 (e + 1)) 66 1 (c + 1)) (fun v S1 => f_X11_law c e a S = v ∧ g_X11_law c e a S = S1)) := by
  show u_P L xs n d m_X11_law 0 [(0, .ref 1), (1, .int a)] [] S R _
  refine u_st rfl (fun _ => rfl) ?_
  refine u_st rfl (fun _ => rfl) ?_
  show u_P L xs n d m_X11_law 2 [(0, .ref 1), (1, .int a)] [.int (Int32.ofInt 1), .int a] S R _
  refine u_ic_lt rfl (fun h1 => ?_) (fun h1 => ?_)
  · show u_P L xs n d m_X11_law 23 [(0, .ref 1), (1, .int a)] [] S R _
    refine u_st rfl (fun _ => rfl) ?_
    show u_P L xs n d m_X11_law 24 [(0, .ref 1), (1, .int a)] [.int (Int32.ofInt (-1))] S R _
    exact u_ret rfl rfl ⟨_, rfl, fun h => absurd h (by decide), fun _ => rfl, by rw [f_X11_law, if_pos h1], by rw [g_X11_law, if_pos h1]⟩
  · show u_P L xs n d m_X11_law 5 [(0, .ref 1), (1, .int a)] [] S R _
    refine u_st rfl (fun _ => rfl) ?_
    refine u_st rfl (fun _ => rfl) ?_
    show u_P L xs n d m_X11_law 9 [(0, .ref 1), (1, .int a)] [.int (Int32.ofInt 240), .int a] S R _
    refine u_ic_gt rfl (fun h2 => ?_) (fun h2 => ?_)
    · show u_P L xs n d m_X11_law 23 [(0, .ref 1), (1, .int a)] [] S R _
      refine u_st rfl (fun _ => rfl) ?_
      show u_P L xs n d m_X11_law 24 [(0, .ref 1), (1, .int a)] [.int (Int32.ofInt (-1))] S R _
      exact u_ret rfl rfl ⟨_, rfl, fun h => absurd h (by decide), fun _ => rfl, by rw [f_X11_law, if_neg h1, if_pos h2], by rw [g_X11_law, if_neg h1, if_pos h2]⟩
    · show u_P L xs n d m_X11_law 12 [(0, .ref 1), (1, .int a)] [] S R _
      refine u_st rfl (fun _ => rfl) ?_
      refine u_st rfl (fun _ => rfl) ?_
      show u_P L xs n d m_X11_law 14 [(0, .ref 1), (1, .int a)] [.ref 1, .int a] S R _
      refine u_getr rfl v_tyC rfl ?_
      show u_P L xs n d m_X11_law 17 [(0, .ref 1), (1, .int a)] [.ref 46, .int a] S R _
      refine u_getE (v := S 45 1) rfl rfl rfl rfl ?_
      show u_P L xs n d m_X11_law 20 [(0, .ref 1), (1, .int a)] [.int (S 45 1), .int a] S R _
      refine u_ic_le rfl (fun h3 => ?_) (fun h3 => ?_)
      · show u_P L xs n d m_X11_law 25 [(0, .ref 1), (1, .int a)] [] S R _
        refine u_st rfl (fun _ => rfl) ?_
        show u_P L xs n d m_X11_law 26 [(0, .ref 1), (1, .int a)] [.ref 1] S R _
        refine u_getr rfl v_tyC rfl ?_
        refine u_st rfl (fun _ => rfl) ?_
        refine u_st rfl (fun _ => rfl) ?_
        show u_P L xs n d m_X11_law 31 [(0, .ref 1), (1, .int a)] [.int (Int32.ofInt 1), .int a, .ref 67] S R _
        refine u_cv (rest := []) rfl (by decide) mt_X5_readText rfl rfl rfl rfl (Nat.le_of_ble_eq_true rfl) (Nat.le_of_ble_eq_true rfl) (Nat.le_of_ble_eq_true rfl) (fun d' => c_X5_readText L xs n d' hE he a (Int32.ofInt 1) S) ?_
        rintro _ _ _ ⟨_, rfl, rfl, rfl, rfl⟩
        refine u_st rfl (fun _ => rfl) ?_
        refine u_st rfl (fun _ => rfl) ?_
        show u_P L xs n d m_X11_law 36 [(2, .int (f_X5_readText e a (Int32.ofInt 1) S)), (0, .ref 1), (1, .int a)] [.ref 1] (g_X5_readText e a (Int32.ofInt 1) S) R _
        refine u_getr rfl v_tyC rfl ?_
        show u_P L xs n d m_X11_law 39 [(2, .int (f_X5_readText e a (Int32.ofInt 1) S)), (0, .ref 1), (1, .int a)] [.ref 46] (g_X5_readText e a (Int32.ofInt 1) S) R _
        refine u_cv (rest := []) rfl (by decide) mt_X8_empty rfl rfl rfl rfl (Nat.le_of_ble_eq_true rfl) (Nat.le_of_ble_eq_true rfl) (Nat.le_of_ble_eq_true rfl) (fun d' => c_X8_empty L xs n d' (g_X5_readText e a (Int32.ofInt 1) S) R) ?_
        rintro _ _ _ ⟨rfl, rfl, rfl⟩
        refine u_st rfl (fun _ => rfl) ?_
        show u_P L xs n d m_X11_law 43 [(2, .int (f_X5_readText e a (Int32.ofInt 1) S)), (0, .ref 1), (1, .int a)] [.int (f_X5_readText e a (Int32.ofInt 1) S)] (g_X8_empty (g_X5_readText e a (Int32.ofInt 1) S)) R _
        refine u_if_le rfl (fun h4 => ?_) (fun h4 => ?_)
        · show u_P L xs n d m_X11_law 67 [(2, .int (f_X5_readText e a (Int32.ofInt 1) S)), (0, .ref 1), (1, .int a)] [] (g_X8_empty (g_X5_readText e a (Int32.ofInt 1) S)) R _
          refine u_st rfl (fun _ => rfl) ?_
          show u_P L xs n d m_X11_law 68 [(2, .int (f_X5_readText e a (Int32.ofInt 1) S)), (0, .ref 1), (1, .int a)] [.int (f_X5_readText e a (Int32.ofInt 1) S)] (g_X8_empty (g_X5_readText e a (Int32.ofInt 1) S)) R _
          exact u_ret rfl rfl ⟨_, rfl, fun h => absurd h (z_nlt h4), fun _ => rfl, by rw [f_X11_law, if_neg h1, if_neg h2, if_pos h3, if_pos h4], by rw [g_X11_law, if_neg h1, if_neg h2, if_pos h3]⟩
        · show u_P L xs n d m_X11_law 46 [(2, .int (f_X5_readText e a (Int32.ofInt 1) S)), (0, .ref 1), (1, .int a)] [] (g_X8_empty (g_X5_readText e a (Int32.ofInt 1) S)) R _
          refine u_st rfl (fun _ => rfl) ?_
          show u_P L xs n d m_X11_law 47 [(2, .int (f_X5_readText e a (Int32.ofInt 1) S)), (0, .ref 1), (1, .int a)] [.ref 1] (g_X8_empty (g_X5_readText e a (Int32.ofInt 1) S)) R _
          refine u_getr rfl v_tyC rfl ?_
          refine u_st rfl (fun _ => rfl) ?_
          show u_P L xs n d m_X11_law 51 [(2, .int (f_X5_readText e a (Int32.ofInt 1) S)), (0, .ref 1), (1, .int a)] [.ref 1, .ref 67] (g_X8_empty (g_X5_readText e a (Int32.ofInt 1) S)) R _
          refine u_getr rfl v_tyC rfl ?_
          refine u_st rfl (fun _ => rfl) ?_
          show u_P L xs n d m_X11_law 55 [(2, .int (f_X5_readText e a (Int32.ofInt 1) S)), (0, .ref 1), (1, .int a)] [.ref 1, .ref 51, .ref 67] (g_X8_empty (g_X5_readText e a (Int32.ofInt 1) S)) R _
          refine u_getr rfl v_tyC rfl ?_
          show u_P L xs n d m_X11_law 58 [(2, .int (f_X5_readText e a (Int32.ofInt 1) S)), (0, .ref 1), (1, .int a)] [.ref 67, .ref 51, .ref 67] (g_X8_empty (g_X5_readText e a (Int32.ofInt 1) S)) R _
          refine u_getv rfl rfl rfl hE ?_
          show u_P L xs n d m_X11_law 61 [(2, .int (f_X5_readText e a (Int32.ofInt 1) S)), (0, .ref 1), (1, .int a)] [.ref (e + 1), .ref 51, .ref 67] (g_X8_empty (g_X5_readText e a (Int32.ofInt 1) S)) R _
          refine u_cv (rest := [.ref 67]) rfl (by decide) mt_X3_exchangeLaw rfl rfl rfl rfl (Nat.le_of_ble_eq_true rfl) (Nat.le_of_ble_eq_true rfl) (Nat.le_of_ble_eq_true rfl) (fun d' => c_X3_exchangeLaw L xs n d' hL e (g_X8_empty (g_X5_readText e a (Int32.ofInt 1) S))) ?_
          rintro _ _ _ ⟨rfl, rfl, rfl⟩
          show u_P L xs n d m_X11_law 64 [(2, .int (f_X5_readText e a (Int32.ofInt 1) S)), (0, .ref 1), (1, .int a)] [.ref (c + 1), .ref 67] (g_X8_empty (g_X5_readText e a (Int32.ofInt 1) S)) (v_urr R 50 2 (e + 1)) _
          refine u_putR rfl rfl rfl ?_
          refine u_st rfl (fun _ => rfl) ?_
          show u_P L xs n d m_X11_law 68 [(2, .int (f_X5_readText e a (Int32.ofInt 1) S)), (0, .ref 1), (1, .int a)] [.int (f_X5_readText e a (Int32.ofInt 1) S)] (g_X8_empty (g_X5_readText e a (Int32.ofInt 1) S)) (v_urr (v_urr R 50 2 (e + 1)) 66 1 (c + 1)) _
          exact u_ret rfl rfl ⟨_, rfl, fun _ => rfl, fun h => absurd (z_ltn h4) h, by rw [f_X11_law, if_neg h1, if_neg h2, if_pos h3, if_neg h4], by rw [g_X11_law, if_neg h1, if_neg h2, if_pos h3]⟩
      · show u_P L xs n d m_X11_law 23 [(0, .ref 1), (1, .int a)] [] S R _
        refine u_st rfl (fun _ => rfl) ?_
        show u_P L xs n d m_X11_law 24 [(0, .ref 1), (1, .int a)] [.int (Int32.ofInt (-1))] S R _
        exact u_ret rfl rfl ⟨_, rfl, fun h => absurd h (by decide), fun _ => rfl, by rw [f_X11_law, if_neg h1, if_neg h2, if_neg h3], by rw [g_X11_law, if_neg h1, if_neg h2, if_neg h3]⟩
noncomputable abbrev m_X3_exchangeRules : g_M := (g_cn 3, yX3_exchangeRules, cX3_exchangeRules, 3, (some (.object "GustHome$Code")), g_look2 ttX3_exchangeRules)
set_option maxRecDepth 20000 in
theorem mt_X3_exchangeRules : g_mt 32 = some m_X3_exchangeRules := rfl
theorem c_X3_exchangeRules (L : Nat) (xs : Nat → Int32) (n d : Nat) {R : v_Rf} {c : Nat} (hL : R 50 3 = some (c + 1)) (e : Nat) (S : v_Sf) : u_P L xs n d m_X3_exchangeRules 0 (lv_args 0 [.ref 51, .ref (e + 1)]) [] S R (fun r S1 R1 => some (.ref (c + 1)) = r ∧ S = S1 ∧ v_urr R 50 3 (e + 1) = R1) := by
  show u_P L xs n d m_X3_exchangeRules 0 [(0, .ref 51), (1, .ref (e + 1))] [] S R _
  refine u_st rfl (fun _ => rfl) ?_
  show u_P L xs n d m_X3_exchangeRules 1 [(0, .ref 51), (1, .ref (e + 1))] [.ref 51] S R _
  refine u_getv rfl rfl rfl hL ?_
  refine u_st rfl (fun _ => rfl) ?_
  refine u_st rfl (fun _ => rfl) ?_
  refine u_st rfl (fun _ => rfl) ?_
  show u_P L xs n d m_X3_exchangeRules 7 [(2, .ref (c + 1)), (0, .ref 51), (1, .ref (e + 1))] [.ref (e + 1), .ref 51] S R _
  refine u_putR rfl rfl rfl ?_
  refine u_st rfl (fun _ => rfl) ?_
  exact u_ret rfl rfl ⟨rfl, rfl, rfl⟩
noncomputable abbrev m_X11_rules : g_M := (g_cn 11, yX11_rules, cX11_rules, 3, (some .int), g_look2 ttX11_rules)
set_option maxRecDepth 20000 in
theorem mt_X11_rules : g_mt 124 = some m_X11_rules := rfl
noncomputable def f_X11_rules (b : Nat) (e : Nat) (a : Int32) (S : v_Sf) : Int32 := (if a < (Int32.ofInt 1) then Int32.ofInt (-1) else (if (Int32.ofInt 240) < a then Int32.ofInt (-1) else (if a ≤ (S 45 1) then (if (f_X5_readText e a (Int32.ofInt 0) S) ≤ 0 then f_X5_readText e a (Int32.ofInt 0) S else f_X5_readText e a (Int32.ofInt 0) S) else Int32.ofInt (-1))))
noncomputable def g_X11_rules (b : Nat) (e : Nat) (a : Int32) (S : v_Sf) : v_Sf := (if a < (Int32.ofInt 1) then S else (if (Int32.ofInt 240) < a then S else (if a ≤ (S 45 1) then g_X8_empty (g_X5_readText e a (Int32.ofInt 0) S) else S)))
set_option maxRecDepth 4000 in
theorem c_X11_rules (L : Nat) (xs : Nat → Int32) (n d : Nat) {R : v_Rf} {b : Nat} (hB : R 50 3 = some (b + 1)) (hb : z_cd b) {e : Nat} (hE : R 66 1 = some (e + 1)) (he : z_cd e) (a : Int32) (S : v_Sf) : u_P L xs n d m_X11_rules 0 (lv_args 0 [.ref 1, .int a]) [] S R (z_QR R (v_urr (v_urr R 50 3 (e + 1)) 66 1 (b + 1)) (fun v S1 => f_X11_rules b e a S = v ∧ g_X11_rules b e a S = S1)) := by
  show u_P L xs n d m_X11_rules 0 [(0, .ref 1), (1, .int a)] [] S R _
  refine u_st rfl (fun _ => rfl) ?_
  refine u_st rfl (fun _ => rfl) ?_
  show u_P L xs n d m_X11_rules 2 [(0, .ref 1), (1, .int a)] [.int (Int32.ofInt 1), .int a] S R _
  refine u_ic_lt rfl (fun h1 => ?_) (fun h1 => ?_)
  · show u_P L xs n d m_X11_rules 23 [(0, .ref 1), (1, .int a)] [] S R _
    refine u_st rfl (fun _ => rfl) ?_
    show u_P L xs n d m_X11_rules 24 [(0, .ref 1), (1, .int a)] [.int (Int32.ofInt (-1))] S R _
    exact u_ret rfl rfl ⟨_, rfl, fun h => absurd h (by decide), fun _ => rfl, by rw [f_X11_rules, if_pos h1], by rw [g_X11_rules, if_pos h1]⟩
  · show u_P L xs n d m_X11_rules 5 [(0, .ref 1), (1, .int a)] [] S R _
    refine u_st rfl (fun _ => rfl) ?_
    refine u_st rfl (fun _ => rfl) ?_
    show u_P L xs n d m_X11_rules 9 [(0, .ref 1), (1, .int a)] [.int (Int32.ofInt 240), .int a] S R _
    refine u_ic_gt rfl (fun h2 => ?_) (fun h2 => ?_)
    · show u_P L xs n d m_X11_rules 23 [(0, .ref 1), (1, .int a)] [] S R _
      refine u_st rfl (fun _ => rfl) ?_
      show u_P L xs n d m_X11_rules 24 [(0, .ref 1), (1, .int a)] [.int (Int32.ofInt (-1))] S R _
      exact u_ret rfl rfl ⟨_, rfl, fun h => absurd h (by decide), fun _ => rfl, by rw [f_X11_rules, if_neg h1, if_pos h2], by rw [g_X11_rules, if_neg h1, if_pos h2]⟩
    · show u_P L xs n d m_X11_rules 12 [(0, .ref 1), (1, .int a)] [] S R _
      refine u_st rfl (fun _ => rfl) ?_
      refine u_st rfl (fun _ => rfl) ?_
      show u_P L xs n d m_X11_rules 14 [(0, .ref 1), (1, .int a)] [.ref 1, .int a] S R _
      refine u_getr rfl v_tyC rfl ?_
      show u_P L xs n d m_X11_rules 17 [(0, .ref 1), (1, .int a)] [.ref 46, .int a] S R _
      refine u_getE (v := S 45 1) rfl rfl rfl rfl ?_
      show u_P L xs n d m_X11_rules 20 [(0, .ref 1), (1, .int a)] [.int (S 45 1), .int a] S R _
      refine u_ic_le rfl (fun h3 => ?_) (fun h3 => ?_)
      · show u_P L xs n d m_X11_rules 25 [(0, .ref 1), (1, .int a)] [] S R _
        refine u_st rfl (fun _ => rfl) ?_
        show u_P L xs n d m_X11_rules 26 [(0, .ref 1), (1, .int a)] [.ref 1] S R _
        refine u_getr rfl v_tyC rfl ?_
        refine u_st rfl (fun _ => rfl) ?_
        refine u_st rfl (fun _ => rfl) ?_
        show u_P L xs n d m_X11_rules 31 [(0, .ref 1), (1, .int a)] [.int (Int32.ofInt 0), .int a, .ref 67] S R _
        refine u_cv (rest := []) rfl (by decide) mt_X5_readText rfl rfl rfl rfl (Nat.le_of_ble_eq_true rfl) (Nat.le_of_ble_eq_true rfl) (Nat.le_of_ble_eq_true rfl) (fun d' => c_X5_readText L xs n d' hE he a (Int32.ofInt 0) S) ?_
        rintro _ _ _ ⟨_, rfl, rfl, rfl, rfl⟩
        refine u_st rfl (fun _ => rfl) ?_
        refine u_st rfl (fun _ => rfl) ?_
        show u_P L xs n d m_X11_rules 36 [(2, .int (f_X5_readText e a (Int32.ofInt 0) S)), (0, .ref 1), (1, .int a)] [.ref 1] (g_X5_readText e a (Int32.ofInt 0) S) R _
        refine u_getr rfl v_tyC rfl ?_
        show u_P L xs n d m_X11_rules 39 [(2, .int (f_X5_readText e a (Int32.ofInt 0) S)), (0, .ref 1), (1, .int a)] [.ref 46] (g_X5_readText e a (Int32.ofInt 0) S) R _
        refine u_cv (rest := []) rfl (by decide) mt_X8_empty rfl rfl rfl rfl (Nat.le_of_ble_eq_true rfl) (Nat.le_of_ble_eq_true rfl) (Nat.le_of_ble_eq_true rfl) (fun d' => c_X8_empty L xs n d' (g_X5_readText e a (Int32.ofInt 0) S) R) ?_
        rintro _ _ _ ⟨rfl, rfl, rfl⟩
        refine u_st rfl (fun _ => rfl) ?_
        show u_P L xs n d m_X11_rules 43 [(2, .int (f_X5_readText e a (Int32.ofInt 0) S)), (0, .ref 1), (1, .int a)] [.int (f_X5_readText e a (Int32.ofInt 0) S)] (g_X8_empty (g_X5_readText e a (Int32.ofInt 0) S)) R _
        refine u_if_le rfl (fun h4 => ?_) (fun h4 => ?_)
        · show u_P L xs n d m_X11_rules 67 [(2, .int (f_X5_readText e a (Int32.ofInt 0) S)), (0, .ref 1), (1, .int a)] [] (g_X8_empty (g_X5_readText e a (Int32.ofInt 0) S)) R _
          refine u_st rfl (fun _ => rfl) ?_
          show u_P L xs n d m_X11_rules 68 [(2, .int (f_X5_readText e a (Int32.ofInt 0) S)), (0, .ref 1), (1, .int a)] [.int (f_X5_readText e a (Int32.ofInt 0) S)] (g_X8_empty (g_X5_readText e a (Int32.ofInt 0) S)) R _
          exact u_ret rfl rfl ⟨_, rfl, fun h => absurd h (z_nlt h4), fun _ => rfl, by rw [f_X11_rules, if_neg h1, if_neg h2, if_pos h3, if_pos h4], by rw [g_X11_rules, if_neg h1, if_neg h2, if_pos h3]⟩
        · show u_P L xs n d m_X11_rules 46 [(2, .int (f_X5_readText e a (Int32.ofInt 0) S)), (0, .ref 1), (1, .int a)] [] (g_X8_empty (g_X5_readText e a (Int32.ofInt 0) S)) R _
          refine u_st rfl (fun _ => rfl) ?_
          show u_P L xs n d m_X11_rules 47 [(2, .int (f_X5_readText e a (Int32.ofInt 0) S)), (0, .ref 1), (1, .int a)] [.ref 1] (g_X8_empty (g_X5_readText e a (Int32.ofInt 0) S)) R _
          refine u_getr rfl v_tyC rfl ?_
          refine u_st rfl (fun _ => rfl) ?_
          show u_P L xs n d m_X11_rules 51 [(2, .int (f_X5_readText e a (Int32.ofInt 0) S)), (0, .ref 1), (1, .int a)] [.ref 1, .ref 67] (g_X8_empty (g_X5_readText e a (Int32.ofInt 0) S)) R _
          refine u_getr rfl v_tyC rfl ?_
          refine u_st rfl (fun _ => rfl) ?_
          show u_P L xs n d m_X11_rules 55 [(2, .int (f_X5_readText e a (Int32.ofInt 0) S)), (0, .ref 1), (1, .int a)] [.ref 1, .ref 51, .ref 67] (g_X8_empty (g_X5_readText e a (Int32.ofInt 0) S)) R _
          refine u_getr rfl v_tyC rfl ?_
          show u_P L xs n d m_X11_rules 58 [(2, .int (f_X5_readText e a (Int32.ofInt 0) S)), (0, .ref 1), (1, .int a)] [.ref 67, .ref 51, .ref 67] (g_X8_empty (g_X5_readText e a (Int32.ofInt 0) S)) R _
          refine u_getv rfl rfl rfl hE ?_
          show u_P L xs n d m_X11_rules 61 [(2, .int (f_X5_readText e a (Int32.ofInt 0) S)), (0, .ref 1), (1, .int a)] [.ref (e + 1), .ref 51, .ref 67] (g_X8_empty (g_X5_readText e a (Int32.ofInt 0) S)) R _
          refine u_cv (rest := [.ref 67]) rfl (by decide) mt_X3_exchangeRules rfl rfl rfl rfl (Nat.le_of_ble_eq_true rfl) (Nat.le_of_ble_eq_true rfl) (Nat.le_of_ble_eq_true rfl) (fun d' => c_X3_exchangeRules L xs n d' hB e (g_X8_empty (g_X5_readText e a (Int32.ofInt 0) S))) ?_
          rintro _ _ _ ⟨rfl, rfl, rfl⟩
          show u_P L xs n d m_X11_rules 64 [(2, .int (f_X5_readText e a (Int32.ofInt 0) S)), (0, .ref 1), (1, .int a)] [.ref (b + 1), .ref 67] (g_X8_empty (g_X5_readText e a (Int32.ofInt 0) S)) (v_urr R 50 3 (e + 1)) _
          refine u_putR rfl rfl rfl ?_
          refine u_st rfl (fun _ => rfl) ?_
          show u_P L xs n d m_X11_rules 68 [(2, .int (f_X5_readText e a (Int32.ofInt 0) S)), (0, .ref 1), (1, .int a)] [.int (f_X5_readText e a (Int32.ofInt 0) S)] (g_X8_empty (g_X5_readText e a (Int32.ofInt 0) S)) (v_urr (v_urr R 50 3 (e + 1)) 66 1 (b + 1)) _
          exact u_ret rfl rfl ⟨_, rfl, fun _ => rfl, fun h => absurd (z_ltn h4) h, by rw [f_X11_rules, if_neg h1, if_neg h2, if_pos h3, if_neg h4], by rw [g_X11_rules, if_neg h1, if_neg h2, if_pos h3]⟩
      · show u_P L xs n d m_X11_rules 23 [(0, .ref 1), (1, .int a)] [] S R _
        refine u_st rfl (fun _ => rfl) ?_
        show u_P L xs n d m_X11_rules 24 [(0, .ref 1), (1, .int a)] [.int (Int32.ofInt (-1))] S R _
        exact u_ret rfl rfl ⟨_, rfl, fun h => absurd h (by decide), fun _ => rfl, by rw [f_X11_rules, if_neg h1, if_neg h2, if_neg h3], by rw [g_X11_rules, if_neg h1, if_neg h2, if_neg h3]⟩
end PrtS42r
section PrtS42s
noncomputable def D_X5_repeat_37  (H37 : Int32 → Int32 → Int32 → v_Sf → Prop) (K : v_Sf → Prop) (x4 : Int32) (x5 : Int32) (x6 : Int32) (S : v_Sf) : Prop := ((x5 ≤ x6 → K (z_s S 66 3 x5)) ∧ (¬ (x5 ≤ x6) → ((x6 < x4 → K (z_s S 66 3 x5)) ∧ (¬ (x6 < x4) → (((Int32.ofNat 49) ≤ x6 → K (z_s S 66 3 x5)) ∧ (¬ ((Int32.ofNat 49) ≤ x6) → (0 ≤ (x6 - x4).toInt → (x6 - x4).toInt < 49 → (0 ≤ x6.toInt → x6.toInt < 49 → H37 x4 x5 (x6 + (Int32.ofInt 1)) (z_s S 74 x6.toInt.toNat (S 74 ((x6 - x4).toInt.toNat)))))))))))
noncomputable def D_X5_repeat (a : Int32) (b : Int32) (i : Int32) (H37 : Int32 → Int32 → Int32 → v_Sf → Prop) (K : v_Sf → Prop) (S : v_Sf) : Prop := (((a + (((S 66 3) - a) * b)) ≤ (Int32.ofInt 48) → H37 ((S 66 3) - a) (a + (((S 66 3) - a) * b)) (S 66 3) S) ∧ (¬ ((a + (((S 66 3) - a) * b)) ≤ (Int32.ofInt 48)) → K (g_X5_fail (Int32.ofInt 6) i S)))
set_option maxRecDepth 4000 in
theorem hd_X5_repeat (L : Nat) (xs : Nat → Int32) {R : v_Rf} (a : Int32) (b : Int32) (i : Int32) (H37 : Int32 → Int32 → Int32 → v_Sf → Prop) (K : v_Sf → Prop) (k37 : ∀ (x4 : Int32) (x5 : Int32) (x6 : Int32) (S : v_Sf), H37 x4 x5 x6 S → D_X5_repeat_37 H37 K x4 x5 x6 S) : ∀ n, (∀ (d : Nat) (j1 : Int32) (j2 : Int32) (j3 : Int32) (x4 : Int32) (x5 : Int32) (x6 : Int32) (S : v_Sf), H37 x4 x5 x6 S → u_P L xs n d m_X5_repeat 37 [(0, .ref 67), (1, .int j1), (2, .int j2), (3, .int j3), (4, .int x4), (5, .int x5), (6, .int x6)] [] S R (z_V R K)) := by
  intro n
  induction n using Nat.strongRecOn with
  | ind n ih =>
    intro d j1 j2 j3 x4 x5 x6 S hD
    have hD := k37 x4 x5 x6 S hD
    unfold D_X5_repeat_37 at hD
    show u_P L xs n d m_X5_repeat 37 [(0, .ref 67), (1, .int j1), (2, .int j2), (3, .int j3), (4, .int x4), (5, .int x5), (6, .int x6)] [] S R _
    refine u_st1 rfl (fun _ => rfl) (fun m hm => ?_)
    refine u_st rfl (fun _ => rfl) ?_
    show u_P L xs m d m_X5_repeat 41 [(0, .ref 67), (1, .int j1), (2, .int j2), (3, .int j3), (4, .int x4), (5, .int x5), (6, .int x6)] [.int x5, .int x6] S R _
    refine u_ic_ge rfl (fun h1 => ?_) (fun h1 => ?_)
    · have hD := hD.1 h1
      show u_P L xs m d m_X5_repeat 84 [(0, .ref 67), (1, .int j1), (2, .int j2), (3, .int j3), (4, .int x4), (5, .int x5), (6, .int x6)] [] S R _
      refine u_st rfl (fun _ => rfl) ?_
      refine u_st rfl (fun _ => rfl) ?_
      show u_P L xs m d m_X5_repeat 87 [(0, .ref 67), (1, .int j1), (2, .int j2), (3, .int j3), (4, .int x4), (5, .int x5), (6, .int x6)] [.int x5, .ref 67] S R _
      refine u_put rfl rfl rfl ?_
      show u_P L xs m d m_X5_repeat 90 [(0, .ref 67), (1, .int j1), (2, .int j2), (3, .int j3), (4, .int x4), (5, .int x5), (6, .int x6)] [] (z_s S 66 3 x5) R _
      exact u_ret rfl rfl ⟨rfl, rfl, hD⟩
    · have hD := hD.2 h1
      show u_P L xs m d m_X5_repeat 44 [(0, .ref 67), (1, .int j1), (2, .int j2), (3, .int j3), (4, .int x4), (5, .int x5), (6, .int x6)] [] S R _
      refine u_st rfl (fun _ => rfl) ?_
      refine u_st rfl (fun _ => rfl) ?_
      show u_P L xs m d m_X5_repeat 48 [(0, .ref 67), (1, .int j1), (2, .int j2), (3, .int j3), (4, .int x4), (5, .int x5), (6, .int x6)] [.int x4, .int x6] S R _
      refine u_ic_lt rfl (fun h2 => ?_) (fun h2 => ?_)
      · have hD := hD.1 h2
        show u_P L xs m d m_X5_repeat 84 [(0, .ref 67), (1, .int j1), (2, .int j2), (3, .int j3), (4, .int x4), (5, .int x5), (6, .int x6)] [] S R _
        refine u_st rfl (fun _ => rfl) ?_
        refine u_st rfl (fun _ => rfl) ?_
        show u_P L xs m d m_X5_repeat 87 [(0, .ref 67), (1, .int j1), (2, .int j2), (3, .int j3), (4, .int x4), (5, .int x5), (6, .int x6)] [.int x5, .ref 67] S R _
        refine u_put rfl rfl rfl ?_
        show u_P L xs m d m_X5_repeat 90 [(0, .ref 67), (1, .int j1), (2, .int j2), (3, .int j3), (4, .int x4), (5, .int x5), (6, .int x6)] [] (z_s S 66 3 x5) R _
        exact u_ret rfl rfl ⟨rfl, rfl, hD⟩
      · have hD := hD.2 h2
        show u_P L xs m d m_X5_repeat 51 [(0, .ref 67), (1, .int j1), (2, .int j2), (3, .int j3), (4, .int x4), (5, .int x5), (6, .int x6)] [] S R _
        refine u_st rfl (fun _ => rfl) ?_
        refine u_st rfl (fun _ => rfl) ?_
        show u_P L xs m d m_X5_repeat 54 [(0, .ref 67), (1, .int j1), (2, .int j2), (3, .int j3), (4, .int x4), (5, .int x5), (6, .int x6)] [.ref 67, .int x6] S R _
        refine u_getr rfl rfl rfl ?_
        show u_P L xs m d m_X5_repeat 57 [(0, .ref 67), (1, .int j1), (2, .int j2), (3, .int j3), (4, .int x4), (5, .int x5), (6, .int x6)] [.ref 75, .int x6] S R _
        refine u_al rfl rfl rfl ?_
        show u_P L xs m d m_X5_repeat 58 [(0, .ref 67), (1, .int j1), (2, .int j2), (3, .int j3), (4, .int x4), (5, .int x5), (6, .int x6)] [.int (Int32.ofNat 49), .int x6] S R _
        refine u_ic_ge rfl (fun h3 => ?_) (fun h3 => ?_)
        · have hD := hD.1 h3
          show u_P L xs m d m_X5_repeat 84 [(0, .ref 67), (1, .int j1), (2, .int j2), (3, .int j3), (4, .int x4), (5, .int x5), (6, .int x6)] [] S R _
          refine u_st rfl (fun _ => rfl) ?_
          refine u_st rfl (fun _ => rfl) ?_
          show u_P L xs m d m_X5_repeat 87 [(0, .ref 67), (1, .int j1), (2, .int j2), (3, .int j3), (4, .int x4), (5, .int x5), (6, .int x6)] [.int x5, .ref 67] S R _
          refine u_put rfl rfl rfl ?_
          show u_P L xs m d m_X5_repeat 90 [(0, .ref 67), (1, .int j1), (2, .int j2), (3, .int j3), (4, .int x4), (5, .int x5), (6, .int x6)] [] (z_s S 66 3 x5) R _
          exact u_ret rfl rfl ⟨rfl, rfl, hD⟩
        · have hD := hD.2 h3
          show u_P L xs m d m_X5_repeat 61 [(0, .ref 67), (1, .int j1), (2, .int j2), (3, .int j3), (4, .int x4), (5, .int x5), (6, .int x6)] [] S R _
          refine u_st rfl (fun _ => rfl) ?_
          show u_P L xs m d m_X5_repeat 62 [(0, .ref 67), (1, .int j1), (2, .int j2), (3, .int j3), (4, .int x4), (5, .int x5), (6, .int x6)] [.ref 67] S R _
          refine u_getr rfl rfl rfl ?_
          refine u_st rfl (fun _ => rfl) ?_
          refine u_st rfl (fun _ => rfl) ?_
          show u_P L xs m d m_X5_repeat 68 [(0, .ref 67), (1, .int j1), (2, .int j2), (3, .int j3), (4, .int x4), (5, .int x5), (6, .int x6)] [.ref 67, .int x6, .ref 75] S R _
          refine u_getr rfl rfl rfl ?_
          refine u_st rfl (fun _ => rfl) ?_
          refine u_st rfl (fun _ => rfl) ?_
          refine u_st rfl (fun _ => rfl) ?_
          show u_P L xs m d m_X5_repeat 76 [(0, .ref 67), (1, .int j1), (2, .int j2), (3, .int j3), (4, .int x4), (5, .int x5), (6, .int x6)] [.int (x6 - x4), .ref 75, .int x6, .ref 75] S R _
          refine u_ialdE (v := S 74 ((x6 - x4).toInt.toNat)) rfl rfl rfl (fun b41 b42 => ?_)
          have hD := hD b41 b42
          show u_P L xs m d m_X5_repeat 77 [(0, .ref 67), (1, .int j1), (2, .int j2), (3, .int j3), (4, .int x4), (5, .int x5), (6, .int x6)] [.int (S 74 ((x6 - x4).toInt.toNat)), .int x6, .ref 75] S R _
          refine u_iast rfl rfl (fun b51 b52 => ?_)
          have hD := hD b51 b52
          show u_P L xs m d m_X5_repeat 78 [(0, .ref 67), (1, .int j1), (2, .int j2), (3, .int j3), (4, .int x4), (5, .int x5), (6, .int x6)] [] (z_s S 74 x6.toInt.toNat (S 74 ((x6 - x4).toInt.toNat))) R _
          refine u_st rfl (fun _ => rfl) ?_
          refine u_st rfl (fun _ => rfl) ?_
          refine u_lc (b := [(0, .ref 67), (1, .int j1), (2, .int j2), (3, .int j3), (4, .int x4), (5, .int x5), (6, .int (x6 + (Int32.ofInt 1)))]) (show ([6, 0, 1, 2, 3, 4, 5] : List Nat).Nodup by decide) (show ([0, 1, 2, 3, 4, 5, 6] : List Nat).Nodup by decide) (fun i => match i with | 0 => rfl | 1 => rfl | 2 => rfl | 3 => rfl | 4 => rfl | 5 => rfl | 6 => rfl | _ + 7 => rfl) ?_
          exact (ih m hm) d j1 j2 j3 x4 x5 (x6 + (Int32.ofInt 1)) (z_s S 74 x6.toInt.toNat (S 74 ((x6 - x4).toInt.toNat))) hD
set_option maxRecDepth 4000 in
theorem w_X5_repeat (L : Nat) (xs : Nat → Int32) {R : v_Rf} (a : Int32) (b : Int32) (i : Int32) (H37 : Int32 → Int32 → Int32 → v_Sf → Prop) (K : v_Sf → Prop) (k37 : ∀ (x4 : Int32) (x5 : Int32) (x6 : Int32) (S : v_Sf), H37 x4 x5 x6 S → D_X5_repeat_37 H37 K x4 x5 x6 S) (n d : Nat) (S : v_Sf) (hD : D_X5_repeat a b i H37 K S) : u_P L xs n d m_X5_repeat 0 (lv_args 0 [.ref 67, .int a, .int b, .int i]) [] S R (z_V R K) := by
  unfold D_X5_repeat at hD
  show u_P L xs n d m_X5_repeat 0 [(0, .ref 67), (1, .int a), (2, .int b), (3, .int i)] [] S R _
  refine u_st rfl (fun _ => rfl) ?_
  show u_P L xs n d m_X5_repeat 1 [(0, .ref 67), (1, .int a), (2, .int b), (3, .int i)] [.ref 67] S R _
  refine u_getE (v := S 66 3) rfl rfl rfl rfl ?_
  refine u_st rfl (fun _ => rfl) ?_
  refine u_st rfl (fun _ => rfl) ?_
  refine u_st rfl (fun _ => rfl) ?_
  refine u_st rfl (fun _ => rfl) ?_
  refine u_st rfl (fun _ => rfl) ?_
  refine u_st rfl (fun _ => rfl) ?_
  refine u_st rfl (fun _ => rfl) ?_
  refine u_st rfl (fun _ => rfl) ?_
  refine u_st rfl (fun _ => rfl) ?_
  refine u_st rfl (fun _ => rfl) ?_
  refine u_st rfl (fun _ => rfl) ?_
  show u_P L xs n d m_X5_repeat 20 [(5, .int (a + (((S 66 3) - a) * b))), (4, .int ((S 66 3) - a)), (0, .ref 67), (1, .int a), (2, .int b), (3, .int i)] [.int (Int32.ofInt 48), .int (a + (((S 66 3) - a) * b))] S R _
  refine u_ic_le rfl (fun h1 => ?_) (fun h1 => ?_)
  · have hD := hD.1 h1
    show u_P L xs n d m_X5_repeat 31 [(5, .int (a + (((S 66 3) - a) * b))), (4, .int ((S 66 3) - a)), (0, .ref 67), (1, .int a), (2, .int b), (3, .int i)] [] S R _
    refine u_st rfl (fun _ => rfl) ?_
    show u_P L xs n d m_X5_repeat 32 [(5, .int (a + (((S 66 3) - a) * b))), (4, .int ((S 66 3) - a)), (0, .ref 67), (1, .int a), (2, .int b), (3, .int i)] [.ref 67] S R _
    refine u_getE (v := S 66 3) rfl rfl rfl rfl ?_
    refine u_st rfl (fun _ => rfl) ?_
    refine u_lc (b := [(0, .ref 67), (1, .int a), (2, .int b), (3, .int i), (4, .int ((S 66 3) - a)), (5, .int (a + (((S 66 3) - a) * b))), (6, .int (S 66 3))]) (show ([6, 5, 4, 0, 1, 2, 3] : List Nat).Nodup by decide) (show ([0, 1, 2, 3, 4, 5, 6] : List Nat).Nodup by decide) (fun i => match i with | 0 => rfl | 1 => rfl | 2 => rfl | 3 => rfl | 4 => rfl | 5 => rfl | 6 => rfl | _ + 7 => rfl) ?_
    exact (hd_X5_repeat L xs a b i H37 K k37 n) d a b i ((S 66 3) - a) (a + (((S 66 3) - a) * b)) (S 66 3) S hD
  · have hD := hD.2 h1
    show u_P L xs n d m_X5_repeat 23 [(5, .int (a + (((S 66 3) - a) * b))), (4, .int ((S 66 3) - a)), (0, .ref 67), (1, .int a), (2, .int b), (3, .int i)] [] S R _
    refine u_st rfl (fun _ => rfl) ?_
    refine u_st rfl (fun _ => rfl) ?_
    refine u_st rfl (fun _ => rfl) ?_
    show u_P L xs n d m_X5_repeat 27 [(5, .int (a + (((S 66 3) - a) * b))), (4, .int ((S 66 3) - a)), (0, .ref 67), (1, .int a), (2, .int b), (3, .int i)] [.int i, .int (Int32.ofInt 6), .ref 67] S R _
    refine u_cv (rest := []) rfl (by decide) mt_X5_fail rfl rfl rfl rfl (Nat.le_of_ble_eq_true rfl) (Nat.le_of_ble_eq_true rfl) (Nat.le_of_ble_eq_true rfl) (fun d' => c_X5_fail L xs n d' (Int32.ofInt 6) i S R) ?_
    rintro _ _ _ ⟨rfl, rfl, rfl⟩
    show u_P L xs n d m_X5_repeat 30 [(5, .int (a + (((S 66 3) - a) * b))), (4, .int ((S 66 3) - a)), (0, .ref 67), (1, .int a), (2, .int b), (3, .int i)] [] (g_X5_fail (Int32.ofInt 6) i S) R _
    exact u_ret rfl rfl ⟨rfl, rfl, hD⟩
noncomputable def r_X5_repeat_37 (x4 : Int32) (x5 : Int32) : Nat → Int32 → v_Sf → v_Sf
  | 0, x6, S => z_s S 66 3 x5
  | r + 1, x6, S => (if x6 < x4 then z_s S 66 3 x5 else (if (Int32.ofNat 49) ≤ x6 then z_s S 66 3 x5 else r_X5_repeat_37 x4 x5 r (x6 + (Int32.ofInt 1)) (z_s S 74 x6.toInt.toNat (S 74 ((x6 - x4).toInt.toNat)))))
noncomputable def F_X5_repeat (a : Int32) (b : Int32) (i : Int32) (S : v_Sf) : v_Sf := (if (a + (((S 66 3) - a) * b)) ≤ (Int32.ofInt 48) then r_X5_repeat_37 ((S 66 3) - a) (a + (((S 66 3) - a) * b)) ((a + (((S 66 3) - a) * b)).toInt - (S 66 3).toInt).toNat (S 66 3) S else g_X5_fail (Int32.ofInt 6) i S)
noncomputable def g_X5_repeat (a : Int32) (b : Int32) (i : Int32) (S : v_Sf) : v_Sf := F_X5_repeat a b i S
theorem c_X5_repeat (L : Nat) (xs : Nat → Int32) (n d : Nat) (a : Int32) (b : Int32) (i : Int32) (S : v_Sf) (R : v_Rf) : u_P L xs n d m_X5_repeat 0 (lv_args 0 [.ref 67, .int a, .int b, .int i]) [] S R (z_V R (fun S1 => g_X5_repeat a b i S = S1)) := by
  refine w_X5_repeat L xs a b i (fun y4 y5 y6 T => (S 66 3) - a = y4 ∧ a + (((S 66 3) - a) * b) = y5 ∧ r_X5_repeat_37 ((S 66 3) - a) (a + (((S 66 3) - a) * b)) ((a + (((S 66 3) - a) * b)).toInt - y6.toInt).toNat y6 T = F_X5_repeat a b i S) (fun S1 => g_X5_repeat a b i S = S1) ?_ n d S ?_
  · rintro _ _ x6 S1 ⟨rfl, rfl, e⟩
    unfold D_X5_repeat_37
    rcases Classical.em ((a + (((S 66 3) - a) * b)) ≤ x6) with hk | hk
    · rw [z_rem0 hk, r_X5_repeat_37] at e
      refine ⟨fun q1 => ?_, fun q1 => ?_⟩
      · exact e.symm
      · exact absurd hk q1
    · rw [z_rem hk, r_X5_repeat_37] at e
      refine ⟨fun q2 => ?_, fun q2 => ?_⟩
      · exact absurd q2 hk
      · refine ⟨fun q3 => ?_, fun q3 => ?_⟩
        · rw [if_pos q3] at e
          exact e.symm
        · refine ⟨fun q4 => ?_, fun q4 => ?_⟩
          · rw [if_neg q3, if_pos q4] at e
            exact e.symm
          · intro _ _
            intro _ _
            rw [if_neg q3, if_neg q4] at e
            exact ⟨rfl, rfl, e⟩
  · unfold D_X5_repeat
    refine ⟨fun q5 => ?_, fun q5 => ?_⟩
    · have e : r_X5_repeat_37 ((S 66 3) - a) (a + (((S 66 3) - a) * b)) ((a + (((S 66 3) - a) * b)).toInt - (S 66 3).toInt).toNat (S 66 3) S = F_X5_repeat a b i S := by rw [F_X5_repeat, if_pos q5]
      exact ⟨rfl, rfl, e⟩
    · have e : g_X5_fail (Int32.ofInt 6) i S = F_X5_repeat a b i S := by rw [F_X5_repeat, if_neg q5]
      exact e.symm
noncomputable def D_readGroupF (pr : Int32 → Prop) (φG : Int32 → v_Sf → v_Sf) (a : Int32)  (K : v_Sf → Prop) (S : v_Sf) : Prop := ((a < (Int32.ofInt 2) → (pr (a + (Int32.ofInt 1)) ∧ K (g_X5_expect (Int32.ofInt 41) (φG (a + (Int32.ofInt 1)) (z_s S 66 4 ((S 66 4) + (Int32.ofInt 1))))))) ∧ (¬ (a < (Int32.ofInt 2)) → K (g_X5_fail (Int32.ofInt 5) (S 66 4) S)))
set_option maxRecDepth 4000 in
theorem w_readGroupF (L : Nat) (xs : Nat → Int32) {R : v_Rf} (pr : Int32 → Prop) (φG : Int32 → v_Sf → v_Sf) (hφG : ∀ (n d : Nat) (i : Int32) (S : v_Sf), pr i → u_P L xs n d m_X5_readMonths 0 (lv_args 0 [.ref 67, .int i]) [] S R (z_V R (fun S1 => φG i S = S1))) (a : Int32)  (K : v_Sf → Prop)  (n d : Nat) (S : v_Sf) (hD : D_readGroupF pr φG a K S) : u_P L xs n d m_X5_readGroup 0 (lv_args 0 [.ref 67, .int a]) [] S R (z_V R K) := by
  unfold D_readGroupF at hD
  show u_P L xs n d m_X5_readGroup 0 [(0, .ref 67), (1, .int a)] [] S R _
  refine u_st rfl (fun _ => rfl) ?_
  refine u_st rfl (fun _ => rfl) ?_
  show u_P L xs n d m_X5_readGroup 2 [(0, .ref 67), (1, .int a)] [.int (Int32.ofInt 2), .int a] S R _
  refine u_ic_lt rfl (fun h1 => ?_) (fun h1 => ?_)
  · have hD := hD.1 h1
    show u_P L xs n d m_X5_readGroup 15 [(0, .ref 67), (1, .int a)] [] S R _
    refine u_st rfl (fun _ => rfl) ?_
    refine u_st rfl (fun _ => rfl) ?_
    show u_P L xs n d m_X5_readGroup 17 [(0, .ref 67), (1, .int a)] [.ref 67, .ref 67] S R _
    refine u_getE (v := S 66 4) rfl rfl rfl rfl ?_
    refine u_st rfl (fun _ => rfl) ?_
    refine u_st rfl (fun _ => rfl) ?_
    show u_P L xs n d m_X5_readGroup 22 [(0, .ref 67), (1, .int a)] [.int ((S 66 4) + (Int32.ofInt 1)), .ref 67] S R _
    refine u_put rfl rfl rfl ?_
    refine u_st rfl (fun _ => rfl) ?_
    refine u_st rfl (fun _ => rfl) ?_
    refine u_st rfl (fun _ => rfl) ?_
    refine u_st rfl (fun _ => rfl) ?_
    show u_P L xs n d m_X5_readGroup 29 [(0, .ref 67), (1, .int a)] [.int (a + (Int32.ofInt 1)), .ref 67] (z_s S 66 4 ((S 66 4) + (Int32.ofInt 1))) R _
    refine u_cv (rest := []) rfl (by decide) mt_X5_readMonths rfl rfl rfl rfl (Nat.le_of_ble_eq_true rfl) (Nat.le_of_ble_eq_true rfl) (Nat.le_of_ble_eq_true rfl) (fun d' => hφG n d' (a + (Int32.ofInt 1)) (z_s S 66 4 ((S 66 4) + (Int32.ofInt 1))) hD.1) ?_
    rintro _ _ _ ⟨rfl, rfl, rfl⟩
    have hD := hD.2
    show u_P L xs n d m_X5_readGroup 32 [(0, .ref 67), (1, .int a)] [] (φG (a + (Int32.ofInt 1)) (z_s S 66 4 ((S 66 4) + (Int32.ofInt 1)))) R _
    refine u_st rfl (fun _ => rfl) ?_
    refine u_st rfl (fun _ => rfl) ?_
    show u_P L xs n d m_X5_readGroup 35 [(0, .ref 67), (1, .int a)] [.int (Int32.ofInt 41), .ref 67] (φG (a + (Int32.ofInt 1)) (z_s S 66 4 ((S 66 4) + (Int32.ofInt 1)))) R _
    refine u_cv (rest := []) rfl (by decide) mt_X5_expect rfl rfl rfl rfl (Nat.le_of_ble_eq_true rfl) (Nat.le_of_ble_eq_true rfl) (Nat.le_of_ble_eq_true rfl) (fun d' => c_X5_expect L xs n d' (Int32.ofInt 41) (φG (a + (Int32.ofInt 1)) (z_s S 66 4 ((S 66 4) + (Int32.ofInt 1)))) R) ?_
    rintro _ _ _ ⟨rfl, rfl, rfl⟩
    show u_P L xs n d m_X5_readGroup 38 [(0, .ref 67), (1, .int a)] [] (g_X5_expect (Int32.ofInt 41) (φG (a + (Int32.ofInt 1)) (z_s S 66 4 ((S 66 4) + (Int32.ofInt 1))))) R _
    exact u_ret rfl rfl ⟨rfl, rfl, hD⟩
  · have hD := hD.2 h1
    show u_P L xs n d m_X5_readGroup 5 [(0, .ref 67), (1, .int a)] [] S R _
    refine u_st rfl (fun _ => rfl) ?_
    refine u_st rfl (fun _ => rfl) ?_
    refine u_st rfl (fun _ => rfl) ?_
    show u_P L xs n d m_X5_readGroup 8 [(0, .ref 67), (1, .int a)] [.ref 67, .int (Int32.ofInt 5), .ref 67] S R _
    refine u_getE (v := S 66 4) rfl rfl rfl rfl ?_
    show u_P L xs n d m_X5_readGroup 11 [(0, .ref 67), (1, .int a)] [.int (S 66 4), .int (Int32.ofInt 5), .ref 67] S R _
    refine u_cv (rest := []) rfl (by decide) mt_X5_fail rfl rfl rfl rfl (Nat.le_of_ble_eq_true rfl) (Nat.le_of_ble_eq_true rfl) (Nat.le_of_ble_eq_true rfl) (fun d' => c_X5_fail L xs n d' (Int32.ofInt 5) (S 66 4) S R) ?_
    rintro _ _ _ ⟨rfl, rfl, rfl⟩
    show u_P L xs n d m_X5_readGroup 14 [(0, .ref 67), (1, .int a)] [] (g_X5_fail (Int32.ofInt 5) (S 66 4) S) R _
    exact u_ret rfl rfl ⟨rfl, rfl, hD⟩
noncomputable def F_readGroupF (φG : Int32 → v_Sf → v_Sf) (a : Int32) (S : v_Sf) : v_Sf := (if a < (Int32.ofInt 2) then g_X5_expect (Int32.ofInt 41) (φG (a + (Int32.ofInt 1)) (z_s S 66 4 ((S 66 4) + (Int32.ofInt 1)))) else g_X5_fail (Int32.ofInt 5) (S 66 4) S)
noncomputable def g_readGroupF (φG : Int32 → v_Sf → v_Sf) (a : Int32) (S : v_Sf) : v_Sf := F_readGroupF φG a S
theorem c_readGroupF (L : Nat) (xs : Nat → Int32) (n d : Nat) {R : v_Rf} (pr : Int32 → Prop) (φG : Int32 → v_Sf → v_Sf) (hφG : ∀ (n d : Nat) (i : Int32) (S : v_Sf), pr i → u_P L xs n d m_X5_readMonths 0 (lv_args 0 [.ref 67, .int i]) [] S R (z_V R (fun S1 => φG i S = S1))) (a : Int32) (hs : a < (Int32.ofInt 2) → pr (a + (Int32.ofInt 1))) (S : v_Sf) : u_P L xs n d m_X5_readGroup 0 (lv_args 0 [.ref 67, .int a]) [] S R (z_V R (fun S1 => g_readGroupF φG a S = S1)) := by
  refine w_readGroupF L xs pr φG hφG a  (fun S1 => g_readGroupF φG a S = S1)  n d S ?_
  · unfold D_readGroupF
    refine ⟨fun q1 => ?_, fun q1 => ?_⟩
    · refine ⟨hs (by assumption), ?_⟩
      have e : g_X5_expect (Int32.ofInt 41) (φG (a + (Int32.ofInt 1)) (z_s S 66 4 ((S 66 4) + (Int32.ofInt 1)))) = F_readGroupF φG a S := by rw [F_readGroupF, if_pos q1]
      exact e.symm
    · have e : g_X5_fail (Int32.ofInt 5) (S 66 4) S = F_readGroupF φG a S := by rw [F_readGroupF, if_neg q1]
      exact e.symm
noncomputable def D_readMonthF (pr : Int32 → Prop) (φG : Int32 → v_Sf → v_Sf) (a : Int32)  (K : v_Sf → Prop) (S : v_Sf) : Prop := (((f_X5_here S) < (Int32.ofInt 50) → (((¬ (f_X5_here S) = (Int32.ofInt 40)) → (((¬ (f_X5_here S) = (Int32.ofInt 46)) → (((f_X5_here S) < (Int32.ofInt 65) → (((¬ ((g_X5_fail (Int32.ofInt 1) (S 66 4) S) 66 6) = 0) → K (g_X5_fail (Int32.ofInt 1) (S 66 4) S)) ∧ (¬ (¬ ((g_X5_fail (Int32.ofInt 1) (S 66 4) S) 66 6) = 0) → K (g_X5_repeat (S 66 3) (Int32.ofInt 1) (S 66 4) (g_X5_fail (Int32.ofInt 1) (S 66 4) S))))) ∧ (¬ ((f_X5_here S) < (Int32.ofInt 65)) → (((Int32.ofInt 74) < (f_X5_here S) → (((¬ ((g_X5_fail (Int32.ofInt 1) (S 66 4) S) 66 6) = 0) → K (g_X5_fail (Int32.ofInt 1) (S 66 4) S)) ∧ (¬ (¬ ((g_X5_fail (Int32.ofInt 1) (S 66 4) S) 66 6) = 0) → K (g_X5_repeat (S 66 3) (Int32.ofInt 1) (S 66 4) (g_X5_fail (Int32.ofInt 1) (S 66 4) S))))) ∧ (¬ ((Int32.ofInt 74) < (f_X5_here S)) → (((¬ ((g_X5_writeMonth ((f_X5_here S) - (Int32.ofInt 65)) S) 66 6) = 0) → K (g_X5_writeMonth ((f_X5_here S) - (Int32.ofInt 65)) S)) ∧ (¬ (¬ ((g_X5_writeMonth ((f_X5_here S) - (Int32.ofInt 65)) S) 66 6) = 0) → K (g_X5_repeat (S 66 3) (Int32.ofInt 1) (S 66 4) (g_X5_writeMonth ((f_X5_here S) - (Int32.ofInt 65)) S))))))))) ∧ (¬ (¬ (f_X5_here S) = (Int32.ofInt 46)) → (((¬ ((g_X5_writeMonth (Int32.ofInt (-2)) S) 66 6) = 0) → K (g_X5_writeMonth (Int32.ofInt (-2)) S)) ∧ (¬ (¬ ((g_X5_writeMonth (Int32.ofInt (-2)) S) 66 6) = 0) → K (g_X5_repeat (S 66 3) (Int32.ofInt 1) (S 66 4) (g_X5_writeMonth (Int32.ofInt (-2)) S))))))) ∧ (¬ (¬ (f_X5_here S) = (Int32.ofInt 40)) → ((a < (Int32.ofInt 2) → pr (a + (Int32.ofInt 1))) ∧ (((¬ ((g_readGroupF φG a S) 66 6) = 0) → K (g_readGroupF φG a S)) ∧ (¬ (¬ ((g_readGroupF φG a S) 66 6) = 0) → K (g_X5_repeat (S 66 3) (Int32.ofInt 1) (S 66 4) (g_readGroupF φG a S)))))))) ∧ (¬ ((f_X5_here S) < (Int32.ofInt 50)) → (((Int32.ofInt 57) < (f_X5_here S) → (((¬ (f_X5_here S) = (Int32.ofInt 40)) → (((¬ (f_X5_here S) = (Int32.ofInt 46)) → (((f_X5_here S) < (Int32.ofInt 65) → (((¬ ((g_X5_fail (Int32.ofInt 1) (S 66 4) S) 66 6) = 0) → K (g_X5_fail (Int32.ofInt 1) (S 66 4) S)) ∧ (¬ (¬ ((g_X5_fail (Int32.ofInt 1) (S 66 4) S) 66 6) = 0) → K (g_X5_repeat (S 66 3) (Int32.ofInt 1) (S 66 4) (g_X5_fail (Int32.ofInt 1) (S 66 4) S))))) ∧ (¬ ((f_X5_here S) < (Int32.ofInt 65)) → (((Int32.ofInt 74) < (f_X5_here S) → (((¬ ((g_X5_fail (Int32.ofInt 1) (S 66 4) S) 66 6) = 0) → K (g_X5_fail (Int32.ofInt 1) (S 66 4) S)) ∧ (¬ (¬ ((g_X5_fail (Int32.ofInt 1) (S 66 4) S) 66 6) = 0) → K (g_X5_repeat (S 66 3) (Int32.ofInt 1) (S 66 4) (g_X5_fail (Int32.ofInt 1) (S 66 4) S))))) ∧ (¬ ((Int32.ofInt 74) < (f_X5_here S)) → (((¬ ((g_X5_writeMonth ((f_X5_here S) - (Int32.ofInt 65)) S) 66 6) = 0) → K (g_X5_writeMonth ((f_X5_here S) - (Int32.ofInt 65)) S)) ∧ (¬ (¬ ((g_X5_writeMonth ((f_X5_here S) - (Int32.ofInt 65)) S) 66 6) = 0) → K (g_X5_repeat (S 66 3) (Int32.ofInt 1) (S 66 4) (g_X5_writeMonth ((f_X5_here S) - (Int32.ofInt 65)) S))))))))) ∧ (¬ (¬ (f_X5_here S) = (Int32.ofInt 46)) → (((¬ ((g_X5_writeMonth (Int32.ofInt (-2)) S) 66 6) = 0) → K (g_X5_writeMonth (Int32.ofInt (-2)) S)) ∧ (¬ (¬ ((g_X5_writeMonth (Int32.ofInt (-2)) S) 66 6) = 0) → K (g_X5_repeat (S 66 3) (Int32.ofInt 1) (S 66 4) (g_X5_writeMonth (Int32.ofInt (-2)) S))))))) ∧ (¬ (¬ (f_X5_here S) = (Int32.ofInt 40)) → ((a < (Int32.ofInt 2) → pr (a + (Int32.ofInt 1))) ∧ (((¬ ((g_readGroupF φG a S) 66 6) = 0) → K (g_readGroupF φG a S)) ∧ (¬ (¬ ((g_readGroupF φG a S) 66 6) = 0) → K (g_X5_repeat (S 66 3) (Int32.ofInt 1) (S 66 4) (g_readGroupF φG a S)))))))) ∧ (¬ ((Int32.ofInt 57) < (f_X5_here S)) → (((¬ (f_X5_here (z_s S 66 4 ((S 66 4) + (Int32.ofInt 1)))) = (Int32.ofInt 40)) → (((¬ (f_X5_here (z_s S 66 4 ((S 66 4) + (Int32.ofInt 1)))) = (Int32.ofInt 46)) → (((f_X5_here (z_s S 66 4 ((S 66 4) + (Int32.ofInt 1)))) < (Int32.ofInt 65) → (((¬ ((g_X5_fail (Int32.ofInt 1) ((S 66 4) + (Int32.ofInt 1)) (z_s S 66 4 ((S 66 4) + (Int32.ofInt 1)))) 66 6) = 0) → K (g_X5_fail (Int32.ofInt 1) ((S 66 4) + (Int32.ofInt 1)) (z_s S 66 4 ((S 66 4) + (Int32.ofInt 1))))) ∧ (¬ (¬ ((g_X5_fail (Int32.ofInt 1) ((S 66 4) + (Int32.ofInt 1)) (z_s S 66 4 ((S 66 4) + (Int32.ofInt 1)))) 66 6) = 0) → K (g_X5_repeat (S 66 3) ((f_X5_here S) - (Int32.ofInt 48)) (S 66 4) (g_X5_fail (Int32.ofInt 1) ((S 66 4) + (Int32.ofInt 1)) (z_s S 66 4 ((S 66 4) + (Int32.ofInt 1)))))))) ∧ (¬ ((f_X5_here (z_s S 66 4 ((S 66 4) + (Int32.ofInt 1)))) < (Int32.ofInt 65)) → (((Int32.ofInt 74) < (f_X5_here (z_s S 66 4 ((S 66 4) + (Int32.ofInt 1)))) → (((¬ ((g_X5_fail (Int32.ofInt 1) ((S 66 4) + (Int32.ofInt 1)) (z_s S 66 4 ((S 66 4) + (Int32.ofInt 1)))) 66 6) = 0) → K (g_X5_fail (Int32.ofInt 1) ((S 66 4) + (Int32.ofInt 1)) (z_s S 66 4 ((S 66 4) + (Int32.ofInt 1))))) ∧ (¬ (¬ ((g_X5_fail (Int32.ofInt 1) ((S 66 4) + (Int32.ofInt 1)) (z_s S 66 4 ((S 66 4) + (Int32.ofInt 1)))) 66 6) = 0) → K (g_X5_repeat (S 66 3) ((f_X5_here S) - (Int32.ofInt 48)) (S 66 4) (g_X5_fail (Int32.ofInt 1) ((S 66 4) + (Int32.ofInt 1)) (z_s S 66 4 ((S 66 4) + (Int32.ofInt 1)))))))) ∧ (¬ ((Int32.ofInt 74) < (f_X5_here (z_s S 66 4 ((S 66 4) + (Int32.ofInt 1))))) → (((¬ ((g_X5_writeMonth ((f_X5_here (z_s S 66 4 ((S 66 4) + (Int32.ofInt 1)))) - (Int32.ofInt 65)) (z_s S 66 4 ((S 66 4) + (Int32.ofInt 1)))) 66 6) = 0) → K (g_X5_writeMonth ((f_X5_here (z_s S 66 4 ((S 66 4) + (Int32.ofInt 1)))) - (Int32.ofInt 65)) (z_s S 66 4 ((S 66 4) + (Int32.ofInt 1))))) ∧ (¬ (¬ ((g_X5_writeMonth ((f_X5_here (z_s S 66 4 ((S 66 4) + (Int32.ofInt 1)))) - (Int32.ofInt 65)) (z_s S 66 4 ((S 66 4) + (Int32.ofInt 1)))) 66 6) = 0) → K (g_X5_repeat (S 66 3) ((f_X5_here S) - (Int32.ofInt 48)) (S 66 4) (g_X5_writeMonth ((f_X5_here (z_s S 66 4 ((S 66 4) + (Int32.ofInt 1)))) - (Int32.ofInt 65)) (z_s S 66 4 ((S 66 4) + (Int32.ofInt 1)))))))))))) ∧ (¬ (¬ (f_X5_here (z_s S 66 4 ((S 66 4) + (Int32.ofInt 1)))) = (Int32.ofInt 46)) → (((¬ ((g_X5_writeMonth (Int32.ofInt (-2)) (z_s S 66 4 ((S 66 4) + (Int32.ofInt 1)))) 66 6) = 0) → K (g_X5_writeMonth (Int32.ofInt (-2)) (z_s S 66 4 ((S 66 4) + (Int32.ofInt 1))))) ∧ (¬ (¬ ((g_X5_writeMonth (Int32.ofInt (-2)) (z_s S 66 4 ((S 66 4) + (Int32.ofInt 1)))) 66 6) = 0) → K (g_X5_repeat (S 66 3) ((f_X5_here S) - (Int32.ofInt 48)) (S 66 4) (g_X5_writeMonth (Int32.ofInt (-2)) (z_s S 66 4 ((S 66 4) + (Int32.ofInt 1)))))))))) ∧ (¬ (¬ (f_X5_here (z_s S 66 4 ((S 66 4) + (Int32.ofInt 1)))) = (Int32.ofInt 40)) → ((a < (Int32.ofInt 2) → pr (a + (Int32.ofInt 1))) ∧ (((¬ ((g_readGroupF φG a (z_s S 66 4 ((S 66 4) + (Int32.ofInt 1)))) 66 6) = 0) → K (g_readGroupF φG a (z_s S 66 4 ((S 66 4) + (Int32.ofInt 1))))) ∧ (¬ (¬ ((g_readGroupF φG a (z_s S 66 4 ((S 66 4) + (Int32.ofInt 1)))) 66 6) = 0) → K (g_X5_repeat (S 66 3) ((f_X5_here S) - (Int32.ofInt 48)) (S 66 4) (g_readGroupF φG a (z_s S 66 4 ((S 66 4) + (Int32.ofInt 1))))))))))))))
set_option maxRecDepth 4000 in
theorem w_readMonthF (L : Nat) (xs : Nat → Int32) {R : v_Rf} (pr : Int32 → Prop) (φG : Int32 → v_Sf → v_Sf) (hφG : ∀ (n d : Nat) (i : Int32) (S : v_Sf), pr i → u_P L xs n d m_X5_readMonths 0 (lv_args 0 [.ref 67, .int i]) [] S R (z_V R (fun S1 => φG i S = S1))) (a : Int32)  (K : v_Sf → Prop)  (n d : Nat) (S : v_Sf) (hD : D_readMonthF pr φG a K S) : u_P L xs n d m_X5_readMonth 0 (lv_args 0 [.ref 67, .int a]) [] S R (z_V R K) := by
  unfold D_readMonthF at hD
  show u_P L xs n d m_X5_readMonth 0 [(0, .ref 67), (1, .int a)] [] S R _
  refine u_st rfl (fun _ => rfl) ?_
  show u_P L xs n d m_X5_readMonth 1 [(0, .ref 67), (1, .int a)] [.ref 67] S R _
  refine u_getE (v := S 66 4) rfl rfl rfl rfl ?_
  refine u_st rfl (fun _ => rfl) ?_
  refine u_st rfl (fun _ => rfl) ?_
  show u_P L xs n d m_X5_readMonth 6 [(2, .int (S 66 4)), (0, .ref 67), (1, .int a)] [.ref 67] S R _
  refine u_getE (v := S 66 3) rfl rfl rfl rfl ?_
  refine u_st rfl (fun _ => rfl) ?_
  refine u_st rfl (fun _ => rfl) ?_
  refine u_st rfl (fun _ => rfl) ?_
  refine u_st rfl (fun _ => rfl) ?_
  show u_P L xs n d m_X5_readMonth 14 [(4, .int (Int32.ofInt 1)), (3, .int (S 66 3)), (2, .int (S 66 4)), (0, .ref 67), (1, .int a)] [.ref 67] S R _
  refine u_cv (rest := []) rfl (by decide) mt_X5_here rfl rfl rfl rfl (Nat.le_of_ble_eq_true rfl) (Nat.le_of_ble_eq_true rfl) (Nat.le_of_ble_eq_true rfl) (fun d' => c_X5_here L xs n d' S R) ?_
  rintro _ _ _ ⟨_, rfl, rfl, rfl, rfl⟩
  refine u_st rfl (fun _ => rfl) ?_
  show u_P L xs n d m_X5_readMonth 19 [(4, .int (Int32.ofInt 1)), (3, .int (S 66 3)), (2, .int (S 66 4)), (0, .ref 67), (1, .int a)] [.int (Int32.ofInt 50), .int (f_X5_here S)] S R _
  refine u_ic_lt rfl (fun h1 => ?_) (fun h1 => ?_)
  · have hD := hD.1 h1
    show u_P L xs n d m_X5_readMonth 50 [(4, .int (Int32.ofInt 1)), (3, .int (S 66 3)), (2, .int (S 66 4)), (0, .ref 67), (1, .int a)] [] S R _
    refine u_st rfl (fun _ => rfl) ?_
    show u_P L xs n d m_X5_readMonth 51 [(4, .int (Int32.ofInt 1)), (3, .int (S 66 3)), (2, .int (S 66 4)), (0, .ref 67), (1, .int a)] [.ref 67] S R _
    refine u_cv (rest := []) rfl (by decide) mt_X5_here rfl rfl rfl rfl (Nat.le_of_ble_eq_true rfl) (Nat.le_of_ble_eq_true rfl) (Nat.le_of_ble_eq_true rfl) (fun d' => c_X5_here L xs n d' S R) ?_
    rintro _ _ _ ⟨_, rfl, rfl, rfl, rfl⟩
    refine u_st rfl (fun _ => rfl) ?_
    refine u_st rfl (fun _ => rfl) ?_
    refine u_st rfl (fun _ => rfl) ?_
    show u_P L xs n d m_X5_readMonth 60 [(5, .int (f_X5_here S)), (4, .int (Int32.ofInt 1)), (3, .int (S 66 3)), (2, .int (S 66 4)), (0, .ref 67), (1, .int a)] [.int (Int32.ofInt 40), .int (f_X5_here S)] S R _
    refine u_ic_ne rfl (fun h2 => ?_) (fun h2 => ?_)
    · have hD := hD.1 h2
      show u_P L xs n d m_X5_readMonth 71 [(5, .int (f_X5_here S)), (4, .int (Int32.ofInt 1)), (3, .int (S 66 3)), (2, .int (S 66 4)), (0, .ref 67), (1, .int a)] [] S R _
      refine u_st rfl (fun _ => rfl) ?_
      refine u_st rfl (fun _ => rfl) ?_
      show u_P L xs n d m_X5_readMonth 75 [(5, .int (f_X5_here S)), (4, .int (Int32.ofInt 1)), (3, .int (S 66 3)), (2, .int (S 66 4)), (0, .ref 67), (1, .int a)] [.int (Int32.ofInt 46), .int (f_X5_here S)] S R _
      refine u_ic_ne rfl (fun h3 => ?_) (fun h3 => ?_)
      · have hD := hD.1 h3
        show u_P L xs n d m_X5_readMonth 87 [(5, .int (f_X5_here S)), (4, .int (Int32.ofInt 1)), (3, .int (S 66 3)), (2, .int (S 66 4)), (0, .ref 67), (1, .int a)] [] S R _
        refine u_st rfl (fun _ => rfl) ?_
        refine u_st rfl (fun _ => rfl) ?_
        show u_P L xs n d m_X5_readMonth 91 [(5, .int (f_X5_here S)), (4, .int (Int32.ofInt 1)), (3, .int (S 66 3)), (2, .int (S 66 4)), (0, .ref 67), (1, .int a)] [.int (Int32.ofInt 65), .int (f_X5_here S)] S R _
        refine u_ic_lt rfl (fun h4 => ?_) (fun h4 => ?_)
        · have hD := hD.1 h4
          show u_P L xs n d m_X5_readMonth 113 [(5, .int (f_X5_here S)), (4, .int (Int32.ofInt 1)), (3, .int (S 66 3)), (2, .int (S 66 4)), (0, .ref 67), (1, .int a)] [] S R _
          refine u_st rfl (fun _ => rfl) ?_
          refine u_st rfl (fun _ => rfl) ?_
          refine u_st rfl (fun _ => rfl) ?_
          show u_P L xs n d m_X5_readMonth 116 [(5, .int (f_X5_here S)), (4, .int (Int32.ofInt 1)), (3, .int (S 66 3)), (2, .int (S 66 4)), (0, .ref 67), (1, .int a)] [.ref 67, .int (Int32.ofInt 1), .ref 67] S R _
          refine u_getE (v := S 66 4) rfl rfl rfl rfl ?_
          show u_P L xs n d m_X5_readMonth 119 [(5, .int (f_X5_here S)), (4, .int (Int32.ofInt 1)), (3, .int (S 66 3)), (2, .int (S 66 4)), (0, .ref 67), (1, .int a)] [.int (S 66 4), .int (Int32.ofInt 1), .ref 67] S R _
          refine u_cv (rest := []) rfl (by decide) mt_X5_fail rfl rfl rfl rfl (Nat.le_of_ble_eq_true rfl) (Nat.le_of_ble_eq_true rfl) (Nat.le_of_ble_eq_true rfl) (fun d' => c_X5_fail L xs n d' (Int32.ofInt 1) (S 66 4) S R) ?_
          rintro _ _ _ ⟨rfl, rfl, rfl⟩
          refine u_st rfl (fun _ => rfl) ?_
          show u_P L xs n d m_X5_readMonth 123 [(5, .int (f_X5_here S)), (4, .int (Int32.ofInt 1)), (3, .int (S 66 3)), (2, .int (S 66 4)), (0, .ref 67), (1, .int a)] [.ref 67] (g_X5_fail (Int32.ofInt 1) (S 66 4) S) R _
          refine u_getE (v := (g_X5_fail (Int32.ofInt 1) (S 66 4) S) 66 6) rfl rfl rfl rfl ?_
          show u_P L xs n d m_X5_readMonth 126 [(5, .int (f_X5_here S)), (4, .int (Int32.ofInt 1)), (3, .int (S 66 3)), (2, .int (S 66 4)), (0, .ref 67), (1, .int a)] [.int ((g_X5_fail (Int32.ofInt 1) (S 66 4) S) 66 6)] (g_X5_fail (Int32.ofInt 1) (S 66 4) S) R _
          refine u_if_ne rfl (fun h5 => ?_) (fun h5 => ?_)
          · have hD := hD.1 h5
            show u_P L xs n d m_X5_readMonth 137 [(5, .int (f_X5_here S)), (4, .int (Int32.ofInt 1)), (3, .int (S 66 3)), (2, .int (S 66 4)), (0, .ref 67), (1, .int a)] [] (g_X5_fail (Int32.ofInt 1) (S 66 4) S) R _
            exact u_ret rfl rfl ⟨rfl, rfl, hD⟩
          · have hD := hD.2 h5
            show u_P L xs n d m_X5_readMonth 129 [(5, .int (f_X5_here S)), (4, .int (Int32.ofInt 1)), (3, .int (S 66 3)), (2, .int (S 66 4)), (0, .ref 67), (1, .int a)] [] (g_X5_fail (Int32.ofInt 1) (S 66 4) S) R _
            refine u_st rfl (fun _ => rfl) ?_
            refine u_st rfl (fun _ => rfl) ?_
            refine u_st rfl (fun _ => rfl) ?_
            refine u_st rfl (fun _ => rfl) ?_
            show u_P L xs n d m_X5_readMonth 134 [(5, .int (f_X5_here S)), (4, .int (Int32.ofInt 1)), (3, .int (S 66 3)), (2, .int (S 66 4)), (0, .ref 67), (1, .int a)] [.int (S 66 4), .int (Int32.ofInt 1), .int (S 66 3), .ref 67] (g_X5_fail (Int32.ofInt 1) (S 66 4) S) R _
            refine u_cv (rest := []) rfl (by decide) mt_X5_repeat rfl rfl rfl rfl (Nat.le_of_ble_eq_true rfl) (Nat.le_of_ble_eq_true rfl) (Nat.le_of_ble_eq_true rfl) (fun d' => c_X5_repeat L xs n d' (S 66 3) (Int32.ofInt 1) (S 66 4) (g_X5_fail (Int32.ofInt 1) (S 66 4) S) R) ?_
            rintro _ _ _ ⟨rfl, rfl, rfl⟩
            show u_P L xs n d m_X5_readMonth 137 [(5, .int (f_X5_here S)), (4, .int (Int32.ofInt 1)), (3, .int (S 66 3)), (2, .int (S 66 4)), (0, .ref 67), (1, .int a)] [] (g_X5_repeat (S 66 3) (Int32.ofInt 1) (S 66 4) (g_X5_fail (Int32.ofInt 1) (S 66 4) S)) R _
            exact u_ret rfl rfl ⟨rfl, rfl, hD⟩
        · have hD := hD.2 h4
          show u_P L xs n d m_X5_readMonth 94 [(5, .int (f_X5_here S)), (4, .int (Int32.ofInt 1)), (3, .int (S 66 3)), (2, .int (S 66 4)), (0, .ref 67), (1, .int a)] [] S R _
          refine u_st rfl (fun _ => rfl) ?_
          refine u_st rfl (fun _ => rfl) ?_
          show u_P L xs n d m_X5_readMonth 98 [(5, .int (f_X5_here S)), (4, .int (Int32.ofInt 1)), (3, .int (S 66 3)), (2, .int (S 66 4)), (0, .ref 67), (1, .int a)] [.int (Int32.ofInt 74), .int (f_X5_here S)] S R _
          refine u_ic_gt rfl (fun h6 => ?_) (fun h6 => ?_)
          · have hD := hD.1 h6
            show u_P L xs n d m_X5_readMonth 113 [(5, .int (f_X5_here S)), (4, .int (Int32.ofInt 1)), (3, .int (S 66 3)), (2, .int (S 66 4)), (0, .ref 67), (1, .int a)] [] S R _
            refine u_st rfl (fun _ => rfl) ?_
            refine u_st rfl (fun _ => rfl) ?_
            refine u_st rfl (fun _ => rfl) ?_
            show u_P L xs n d m_X5_readMonth 116 [(5, .int (f_X5_here S)), (4, .int (Int32.ofInt 1)), (3, .int (S 66 3)), (2, .int (S 66 4)), (0, .ref 67), (1, .int a)] [.ref 67, .int (Int32.ofInt 1), .ref 67] S R _
            refine u_getE (v := S 66 4) rfl rfl rfl rfl ?_
            show u_P L xs n d m_X5_readMonth 119 [(5, .int (f_X5_here S)), (4, .int (Int32.ofInt 1)), (3, .int (S 66 3)), (2, .int (S 66 4)), (0, .ref 67), (1, .int a)] [.int (S 66 4), .int (Int32.ofInt 1), .ref 67] S R _
            refine u_cv (rest := []) rfl (by decide) mt_X5_fail rfl rfl rfl rfl (Nat.le_of_ble_eq_true rfl) (Nat.le_of_ble_eq_true rfl) (Nat.le_of_ble_eq_true rfl) (fun d' => c_X5_fail L xs n d' (Int32.ofInt 1) (S 66 4) S R) ?_
            rintro _ _ _ ⟨rfl, rfl, rfl⟩
            refine u_st rfl (fun _ => rfl) ?_
            show u_P L xs n d m_X5_readMonth 123 [(5, .int (f_X5_here S)), (4, .int (Int32.ofInt 1)), (3, .int (S 66 3)), (2, .int (S 66 4)), (0, .ref 67), (1, .int a)] [.ref 67] (g_X5_fail (Int32.ofInt 1) (S 66 4) S) R _
            refine u_getE (v := (g_X5_fail (Int32.ofInt 1) (S 66 4) S) 66 6) rfl rfl rfl rfl ?_
            show u_P L xs n d m_X5_readMonth 126 [(5, .int (f_X5_here S)), (4, .int (Int32.ofInt 1)), (3, .int (S 66 3)), (2, .int (S 66 4)), (0, .ref 67), (1, .int a)] [.int ((g_X5_fail (Int32.ofInt 1) (S 66 4) S) 66 6)] (g_X5_fail (Int32.ofInt 1) (S 66 4) S) R _
            refine u_if_ne rfl (fun h7 => ?_) (fun h7 => ?_)
            · have hD := hD.1 h7
              show u_P L xs n d m_X5_readMonth 137 [(5, .int (f_X5_here S)), (4, .int (Int32.ofInt 1)), (3, .int (S 66 3)), (2, .int (S 66 4)), (0, .ref 67), (1, .int a)] [] (g_X5_fail (Int32.ofInt 1) (S 66 4) S) R _
              exact u_ret rfl rfl ⟨rfl, rfl, hD⟩
            · have hD := hD.2 h7
              show u_P L xs n d m_X5_readMonth 129 [(5, .int (f_X5_here S)), (4, .int (Int32.ofInt 1)), (3, .int (S 66 3)), (2, .int (S 66 4)), (0, .ref 67), (1, .int a)] [] (g_X5_fail (Int32.ofInt 1) (S 66 4) S) R _
              refine u_st rfl (fun _ => rfl) ?_
              refine u_st rfl (fun _ => rfl) ?_
              refine u_st rfl (fun _ => rfl) ?_
              refine u_st rfl (fun _ => rfl) ?_
              show u_P L xs n d m_X5_readMonth 134 [(5, .int (f_X5_here S)), (4, .int (Int32.ofInt 1)), (3, .int (S 66 3)), (2, .int (S 66 4)), (0, .ref 67), (1, .int a)] [.int (S 66 4), .int (Int32.ofInt 1), .int (S 66 3), .ref 67] (g_X5_fail (Int32.ofInt 1) (S 66 4) S) R _
              refine u_cv (rest := []) rfl (by decide) mt_X5_repeat rfl rfl rfl rfl (Nat.le_of_ble_eq_true rfl) (Nat.le_of_ble_eq_true rfl) (Nat.le_of_ble_eq_true rfl) (fun d' => c_X5_repeat L xs n d' (S 66 3) (Int32.ofInt 1) (S 66 4) (g_X5_fail (Int32.ofInt 1) (S 66 4) S) R) ?_
              rintro _ _ _ ⟨rfl, rfl, rfl⟩
              show u_P L xs n d m_X5_readMonth 137 [(5, .int (f_X5_here S)), (4, .int (Int32.ofInt 1)), (3, .int (S 66 3)), (2, .int (S 66 4)), (0, .ref 67), (1, .int a)] [] (g_X5_repeat (S 66 3) (Int32.ofInt 1) (S 66 4) (g_X5_fail (Int32.ofInt 1) (S 66 4) S)) R _
              exact u_ret rfl rfl ⟨rfl, rfl, hD⟩
          · have hD := hD.2 h6
            show u_P L xs n d m_X5_readMonth 101 [(5, .int (f_X5_here S)), (4, .int (Int32.ofInt 1)), (3, .int (S 66 3)), (2, .int (S 66 4)), (0, .ref 67), (1, .int a)] [] S R _
            refine u_st rfl (fun _ => rfl) ?_
            refine u_st rfl (fun _ => rfl) ?_
            refine u_st rfl (fun _ => rfl) ?_
            refine u_st rfl (fun _ => rfl) ?_
            show u_P L xs n d m_X5_readMonth 107 [(5, .int (f_X5_here S)), (4, .int (Int32.ofInt 1)), (3, .int (S 66 3)), (2, .int (S 66 4)), (0, .ref 67), (1, .int a)] [.int ((f_X5_here S) - (Int32.ofInt 65)), .ref 67] S R _
            refine u_cv (rest := []) rfl (by decide) mt_X5_writeMonth rfl rfl rfl rfl (Nat.le_of_ble_eq_true rfl) (Nat.le_of_ble_eq_true rfl) (Nat.le_of_ble_eq_true rfl) (fun d' => c_X5_writeMonth L xs n d' ((f_X5_here S) - (Int32.ofInt 65)) S R) ?_
            rintro _ _ _ ⟨rfl, rfl, rfl⟩
            refine u_st rfl (fun _ => rfl) ?_
            refine u_st rfl (fun _ => rfl) ?_
            show u_P L xs n d m_X5_readMonth 123 [(5, .int (f_X5_here S)), (4, .int (Int32.ofInt 1)), (3, .int (S 66 3)), (2, .int (S 66 4)), (0, .ref 67), (1, .int a)] [.ref 67] (g_X5_writeMonth ((f_X5_here S) - (Int32.ofInt 65)) S) R _
            refine u_getE (v := (g_X5_writeMonth ((f_X5_here S) - (Int32.ofInt 65)) S) 66 6) rfl rfl rfl rfl ?_
            show u_P L xs n d m_X5_readMonth 126 [(5, .int (f_X5_here S)), (4, .int (Int32.ofInt 1)), (3, .int (S 66 3)), (2, .int (S 66 4)), (0, .ref 67), (1, .int a)] [.int ((g_X5_writeMonth ((f_X5_here S) - (Int32.ofInt 65)) S) 66 6)] (g_X5_writeMonth ((f_X5_here S) - (Int32.ofInt 65)) S) R _
            refine u_if_ne rfl (fun h8 => ?_) (fun h8 => ?_)
            · have hD := hD.1 h8
              show u_P L xs n d m_X5_readMonth 137 [(5, .int (f_X5_here S)), (4, .int (Int32.ofInt 1)), (3, .int (S 66 3)), (2, .int (S 66 4)), (0, .ref 67), (1, .int a)] [] (g_X5_writeMonth ((f_X5_here S) - (Int32.ofInt 65)) S) R _
              exact u_ret rfl rfl ⟨rfl, rfl, hD⟩
            · have hD := hD.2 h8
              show u_P L xs n d m_X5_readMonth 129 [(5, .int (f_X5_here S)), (4, .int (Int32.ofInt 1)), (3, .int (S 66 3)), (2, .int (S 66 4)), (0, .ref 67), (1, .int a)] [] (g_X5_writeMonth ((f_X5_here S) - (Int32.ofInt 65)) S) R _
              refine u_st rfl (fun _ => rfl) ?_
              refine u_st rfl (fun _ => rfl) ?_
              refine u_st rfl (fun _ => rfl) ?_
              refine u_st rfl (fun _ => rfl) ?_
              show u_P L xs n d m_X5_readMonth 134 [(5, .int (f_X5_here S)), (4, .int (Int32.ofInt 1)), (3, .int (S 66 3)), (2, .int (S 66 4)), (0, .ref 67), (1, .int a)] [.int (S 66 4), .int (Int32.ofInt 1), .int (S 66 3), .ref 67] (g_X5_writeMonth ((f_X5_here S) - (Int32.ofInt 65)) S) R _
              refine u_cv (rest := []) rfl (by decide) mt_X5_repeat rfl rfl rfl rfl (Nat.le_of_ble_eq_true rfl) (Nat.le_of_ble_eq_true rfl) (Nat.le_of_ble_eq_true rfl) (fun d' => c_X5_repeat L xs n d' (S 66 3) (Int32.ofInt 1) (S 66 4) (g_X5_writeMonth ((f_X5_here S) - (Int32.ofInt 65)) S) R) ?_
              rintro _ _ _ ⟨rfl, rfl, rfl⟩
              show u_P L xs n d m_X5_readMonth 137 [(5, .int (f_X5_here S)), (4, .int (Int32.ofInt 1)), (3, .int (S 66 3)), (2, .int (S 66 4)), (0, .ref 67), (1, .int a)] [] (g_X5_repeat (S 66 3) (Int32.ofInt 1) (S 66 4) (g_X5_writeMonth ((f_X5_here S) - (Int32.ofInt 65)) S)) R _
              exact u_ret rfl rfl ⟨rfl, rfl, hD⟩
      · have hD := hD.2 h3
        show u_P L xs n d m_X5_readMonth 78 [(5, .int (f_X5_here S)), (4, .int (Int32.ofInt 1)), (3, .int (S 66 3)), (2, .int (S 66 4)), (0, .ref 67), (1, .int a)] [] S R _
        refine u_st rfl (fun _ => rfl) ?_
        refine u_st rfl (fun _ => rfl) ?_
        show u_P L xs n d m_X5_readMonth 81 [(5, .int (f_X5_here S)), (4, .int (Int32.ofInt 1)), (3, .int (S 66 3)), (2, .int (S 66 4)), (0, .ref 67), (1, .int a)] [.int (Int32.ofInt (-2)), .ref 67] S R _
        refine u_cv (rest := []) rfl (by decide) mt_X5_writeMonth rfl rfl rfl rfl (Nat.le_of_ble_eq_true rfl) (Nat.le_of_ble_eq_true rfl) (Nat.le_of_ble_eq_true rfl) (fun d' => c_X5_writeMonth L xs n d' (Int32.ofInt (-2)) S R) ?_
        rintro _ _ _ ⟨rfl, rfl, rfl⟩
        refine u_st rfl (fun _ => rfl) ?_
        refine u_st rfl (fun _ => rfl) ?_
        show u_P L xs n d m_X5_readMonth 123 [(5, .int (f_X5_here S)), (4, .int (Int32.ofInt 1)), (3, .int (S 66 3)), (2, .int (S 66 4)), (0, .ref 67), (1, .int a)] [.ref 67] (g_X5_writeMonth (Int32.ofInt (-2)) S) R _
        refine u_getE (v := (g_X5_writeMonth (Int32.ofInt (-2)) S) 66 6) rfl rfl rfl rfl ?_
        show u_P L xs n d m_X5_readMonth 126 [(5, .int (f_X5_here S)), (4, .int (Int32.ofInt 1)), (3, .int (S 66 3)), (2, .int (S 66 4)), (0, .ref 67), (1, .int a)] [.int ((g_X5_writeMonth (Int32.ofInt (-2)) S) 66 6)] (g_X5_writeMonth (Int32.ofInt (-2)) S) R _
        refine u_if_ne rfl (fun h9 => ?_) (fun h9 => ?_)
        · have hD := hD.1 h9
          show u_P L xs n d m_X5_readMonth 137 [(5, .int (f_X5_here S)), (4, .int (Int32.ofInt 1)), (3, .int (S 66 3)), (2, .int (S 66 4)), (0, .ref 67), (1, .int a)] [] (g_X5_writeMonth (Int32.ofInt (-2)) S) R _
          exact u_ret rfl rfl ⟨rfl, rfl, hD⟩
        · have hD := hD.2 h9
          show u_P L xs n d m_X5_readMonth 129 [(5, .int (f_X5_here S)), (4, .int (Int32.ofInt 1)), (3, .int (S 66 3)), (2, .int (S 66 4)), (0, .ref 67), (1, .int a)] [] (g_X5_writeMonth (Int32.ofInt (-2)) S) R _
          refine u_st rfl (fun _ => rfl) ?_
          refine u_st rfl (fun _ => rfl) ?_
          refine u_st rfl (fun _ => rfl) ?_
          refine u_st rfl (fun _ => rfl) ?_
          show u_P L xs n d m_X5_readMonth 134 [(5, .int (f_X5_here S)), (4, .int (Int32.ofInt 1)), (3, .int (S 66 3)), (2, .int (S 66 4)), (0, .ref 67), (1, .int a)] [.int (S 66 4), .int (Int32.ofInt 1), .int (S 66 3), .ref 67] (g_X5_writeMonth (Int32.ofInt (-2)) S) R _
          refine u_cv (rest := []) rfl (by decide) mt_X5_repeat rfl rfl rfl rfl (Nat.le_of_ble_eq_true rfl) (Nat.le_of_ble_eq_true rfl) (Nat.le_of_ble_eq_true rfl) (fun d' => c_X5_repeat L xs n d' (S 66 3) (Int32.ofInt 1) (S 66 4) (g_X5_writeMonth (Int32.ofInt (-2)) S) R) ?_
          rintro _ _ _ ⟨rfl, rfl, rfl⟩
          show u_P L xs n d m_X5_readMonth 137 [(5, .int (f_X5_here S)), (4, .int (Int32.ofInt 1)), (3, .int (S 66 3)), (2, .int (S 66 4)), (0, .ref 67), (1, .int a)] [] (g_X5_repeat (S 66 3) (Int32.ofInt 1) (S 66 4) (g_X5_writeMonth (Int32.ofInt (-2)) S)) R _
          exact u_ret rfl rfl ⟨rfl, rfl, hD⟩
    · have hD := hD.2 h2
      show u_P L xs n d m_X5_readMonth 63 [(5, .int (f_X5_here S)), (4, .int (Int32.ofInt 1)), (3, .int (S 66 3)), (2, .int (S 66 4)), (0, .ref 67), (1, .int a)] [] S R _
      refine u_st rfl (fun _ => rfl) ?_
      refine u_st rfl (fun _ => rfl) ?_
      show u_P L xs n d m_X5_readMonth 65 [(5, .int (f_X5_here S)), (4, .int (Int32.ofInt 1)), (3, .int (S 66 3)), (2, .int (S 66 4)), (0, .ref 67), (1, .int a)] [.int a, .ref 67] S R _
      refine u_cv (rest := []) rfl (by decide) mt_X5_readGroup rfl rfl rfl rfl (Nat.le_of_ble_eq_true rfl) (Nat.le_of_ble_eq_true rfl) (Nat.le_of_ble_eq_true rfl) (fun d' => c_readGroupF L xs n d' pr φG hφG a hD.1 S) ?_
      rintro _ _ _ ⟨rfl, rfl, rfl⟩
      have hD := hD.2
      show u_P L xs n d m_X5_readMonth 68 [(5, .int (f_X5_here S)), (4, .int (Int32.ofInt 1)), (3, .int (S 66 3)), (2, .int (S 66 4)), (0, .ref 67), (1, .int a)] [] (g_readGroupF φG a S) R _
      refine u_st rfl (fun _ => rfl) ?_
      refine u_st rfl (fun _ => rfl) ?_
      show u_P L xs n d m_X5_readMonth 123 [(5, .int (f_X5_here S)), (4, .int (Int32.ofInt 1)), (3, .int (S 66 3)), (2, .int (S 66 4)), (0, .ref 67), (1, .int a)] [.ref 67] (g_readGroupF φG a S) R _
      refine u_getE (v := (g_readGroupF φG a S) 66 6) rfl rfl rfl rfl ?_
      show u_P L xs n d m_X5_readMonth 126 [(5, .int (f_X5_here S)), (4, .int (Int32.ofInt 1)), (3, .int (S 66 3)), (2, .int (S 66 4)), (0, .ref 67), (1, .int a)] [.int ((g_readGroupF φG a S) 66 6)] (g_readGroupF φG a S) R _
      refine u_if_ne rfl (fun h10 => ?_) (fun h10 => ?_)
      · have hD := hD.1 h10
        show u_P L xs n d m_X5_readMonth 137 [(5, .int (f_X5_here S)), (4, .int (Int32.ofInt 1)), (3, .int (S 66 3)), (2, .int (S 66 4)), (0, .ref 67), (1, .int a)] [] (g_readGroupF φG a S) R _
        exact u_ret rfl rfl ⟨rfl, rfl, hD⟩
      · have hD := hD.2 h10
        show u_P L xs n d m_X5_readMonth 129 [(5, .int (f_X5_here S)), (4, .int (Int32.ofInt 1)), (3, .int (S 66 3)), (2, .int (S 66 4)), (0, .ref 67), (1, .int a)] [] (g_readGroupF φG a S) R _
        refine u_st rfl (fun _ => rfl) ?_
        refine u_st rfl (fun _ => rfl) ?_
        refine u_st rfl (fun _ => rfl) ?_
        refine u_st rfl (fun _ => rfl) ?_
        show u_P L xs n d m_X5_readMonth 134 [(5, .int (f_X5_here S)), (4, .int (Int32.ofInt 1)), (3, .int (S 66 3)), (2, .int (S 66 4)), (0, .ref 67), (1, .int a)] [.int (S 66 4), .int (Int32.ofInt 1), .int (S 66 3), .ref 67] (g_readGroupF φG a S) R _
        refine u_cv (rest := []) rfl (by decide) mt_X5_repeat rfl rfl rfl rfl (Nat.le_of_ble_eq_true rfl) (Nat.le_of_ble_eq_true rfl) (Nat.le_of_ble_eq_true rfl) (fun d' => c_X5_repeat L xs n d' (S 66 3) (Int32.ofInt 1) (S 66 4) (g_readGroupF φG a S) R) ?_
        rintro _ _ _ ⟨rfl, rfl, rfl⟩
        show u_P L xs n d m_X5_readMonth 137 [(5, .int (f_X5_here S)), (4, .int (Int32.ofInt 1)), (3, .int (S 66 3)), (2, .int (S 66 4)), (0, .ref 67), (1, .int a)] [] (g_X5_repeat (S 66 3) (Int32.ofInt 1) (S 66 4) (g_readGroupF φG a S)) R _
        exact u_ret rfl rfl ⟨rfl, rfl, hD⟩
  · have hD := hD.2 h1
    show u_P L xs n d m_X5_readMonth 22 [(4, .int (Int32.ofInt 1)), (3, .int (S 66 3)), (2, .int (S 66 4)), (0, .ref 67), (1, .int a)] [] S R _
    refine u_st rfl (fun _ => rfl) ?_
    show u_P L xs n d m_X5_readMonth 23 [(4, .int (Int32.ofInt 1)), (3, .int (S 66 3)), (2, .int (S 66 4)), (0, .ref 67), (1, .int a)] [.ref 67] S R _
    refine u_cv (rest := []) rfl (by decide) mt_X5_here rfl rfl rfl rfl (Nat.le_of_ble_eq_true rfl) (Nat.le_of_ble_eq_true rfl) (Nat.le_of_ble_eq_true rfl) (fun d' => c_X5_here L xs n d' S R) ?_
    rintro _ _ _ ⟨_, rfl, rfl, rfl, rfl⟩
    refine u_st rfl (fun _ => rfl) ?_
    show u_P L xs n d m_X5_readMonth 28 [(4, .int (Int32.ofInt 1)), (3, .int (S 66 3)), (2, .int (S 66 4)), (0, .ref 67), (1, .int a)] [.int (Int32.ofInt 57), .int (f_X5_here S)] S R _
    refine u_ic_gt rfl (fun h11 => ?_) (fun h11 => ?_)
    · have hD := hD.1 h11
      show u_P L xs n d m_X5_readMonth 50 [(4, .int (Int32.ofInt 1)), (3, .int (S 66 3)), (2, .int (S 66 4)), (0, .ref 67), (1, .int a)] [] S R _
      refine u_st rfl (fun _ => rfl) ?_
      show u_P L xs n d m_X5_readMonth 51 [(4, .int (Int32.ofInt 1)), (3, .int (S 66 3)), (2, .int (S 66 4)), (0, .ref 67), (1, .int a)] [.ref 67] S R _
      refine u_cv (rest := []) rfl (by decide) mt_X5_here rfl rfl rfl rfl (Nat.le_of_ble_eq_true rfl) (Nat.le_of_ble_eq_true rfl) (Nat.le_of_ble_eq_true rfl) (fun d' => c_X5_here L xs n d' S R) ?_
      rintro _ _ _ ⟨_, rfl, rfl, rfl, rfl⟩
      refine u_st rfl (fun _ => rfl) ?_
      refine u_st rfl (fun _ => rfl) ?_
      refine u_st rfl (fun _ => rfl) ?_
      show u_P L xs n d m_X5_readMonth 60 [(5, .int (f_X5_here S)), (4, .int (Int32.ofInt 1)), (3, .int (S 66 3)), (2, .int (S 66 4)), (0, .ref 67), (1, .int a)] [.int (Int32.ofInt 40), .int (f_X5_here S)] S R _
      refine u_ic_ne rfl (fun h12 => ?_) (fun h12 => ?_)
      · have hD := hD.1 h12
        show u_P L xs n d m_X5_readMonth 71 [(5, .int (f_X5_here S)), (4, .int (Int32.ofInt 1)), (3, .int (S 66 3)), (2, .int (S 66 4)), (0, .ref 67), (1, .int a)] [] S R _
        refine u_st rfl (fun _ => rfl) ?_
        refine u_st rfl (fun _ => rfl) ?_
        show u_P L xs n d m_X5_readMonth 75 [(5, .int (f_X5_here S)), (4, .int (Int32.ofInt 1)), (3, .int (S 66 3)), (2, .int (S 66 4)), (0, .ref 67), (1, .int a)] [.int (Int32.ofInt 46), .int (f_X5_here S)] S R _
        refine u_ic_ne rfl (fun h13 => ?_) (fun h13 => ?_)
        · have hD := hD.1 h13
          show u_P L xs n d m_X5_readMonth 87 [(5, .int (f_X5_here S)), (4, .int (Int32.ofInt 1)), (3, .int (S 66 3)), (2, .int (S 66 4)), (0, .ref 67), (1, .int a)] [] S R _
          refine u_st rfl (fun _ => rfl) ?_
          refine u_st rfl (fun _ => rfl) ?_
          show u_P L xs n d m_X5_readMonth 91 [(5, .int (f_X5_here S)), (4, .int (Int32.ofInt 1)), (3, .int (S 66 3)), (2, .int (S 66 4)), (0, .ref 67), (1, .int a)] [.int (Int32.ofInt 65), .int (f_X5_here S)] S R _
          refine u_ic_lt rfl (fun h14 => ?_) (fun h14 => ?_)
          · have hD := hD.1 h14
            show u_P L xs n d m_X5_readMonth 113 [(5, .int (f_X5_here S)), (4, .int (Int32.ofInt 1)), (3, .int (S 66 3)), (2, .int (S 66 4)), (0, .ref 67), (1, .int a)] [] S R _
            refine u_st rfl (fun _ => rfl) ?_
            refine u_st rfl (fun _ => rfl) ?_
            refine u_st rfl (fun _ => rfl) ?_
            show u_P L xs n d m_X5_readMonth 116 [(5, .int (f_X5_here S)), (4, .int (Int32.ofInt 1)), (3, .int (S 66 3)), (2, .int (S 66 4)), (0, .ref 67), (1, .int a)] [.ref 67, .int (Int32.ofInt 1), .ref 67] S R _
            refine u_getE (v := S 66 4) rfl rfl rfl rfl ?_
            show u_P L xs n d m_X5_readMonth 119 [(5, .int (f_X5_here S)), (4, .int (Int32.ofInt 1)), (3, .int (S 66 3)), (2, .int (S 66 4)), (0, .ref 67), (1, .int a)] [.int (S 66 4), .int (Int32.ofInt 1), .ref 67] S R _
            refine u_cv (rest := []) rfl (by decide) mt_X5_fail rfl rfl rfl rfl (Nat.le_of_ble_eq_true rfl) (Nat.le_of_ble_eq_true rfl) (Nat.le_of_ble_eq_true rfl) (fun d' => c_X5_fail L xs n d' (Int32.ofInt 1) (S 66 4) S R) ?_
            rintro _ _ _ ⟨rfl, rfl, rfl⟩
            refine u_st rfl (fun _ => rfl) ?_
            show u_P L xs n d m_X5_readMonth 123 [(5, .int (f_X5_here S)), (4, .int (Int32.ofInt 1)), (3, .int (S 66 3)), (2, .int (S 66 4)), (0, .ref 67), (1, .int a)] [.ref 67] (g_X5_fail (Int32.ofInt 1) (S 66 4) S) R _
            refine u_getE (v := (g_X5_fail (Int32.ofInt 1) (S 66 4) S) 66 6) rfl rfl rfl rfl ?_
            show u_P L xs n d m_X5_readMonth 126 [(5, .int (f_X5_here S)), (4, .int (Int32.ofInt 1)), (3, .int (S 66 3)), (2, .int (S 66 4)), (0, .ref 67), (1, .int a)] [.int ((g_X5_fail (Int32.ofInt 1) (S 66 4) S) 66 6)] (g_X5_fail (Int32.ofInt 1) (S 66 4) S) R _
            refine u_if_ne rfl (fun h15 => ?_) (fun h15 => ?_)
            · have hD := hD.1 h15
              show u_P L xs n d m_X5_readMonth 137 [(5, .int (f_X5_here S)), (4, .int (Int32.ofInt 1)), (3, .int (S 66 3)), (2, .int (S 66 4)), (0, .ref 67), (1, .int a)] [] (g_X5_fail (Int32.ofInt 1) (S 66 4) S) R _
              exact u_ret rfl rfl ⟨rfl, rfl, hD⟩
            · have hD := hD.2 h15
              show u_P L xs n d m_X5_readMonth 129 [(5, .int (f_X5_here S)), (4, .int (Int32.ofInt 1)), (3, .int (S 66 3)), (2, .int (S 66 4)), (0, .ref 67), (1, .int a)] [] (g_X5_fail (Int32.ofInt 1) (S 66 4) S) R _
              refine u_st rfl (fun _ => rfl) ?_
              refine u_st rfl (fun _ => rfl) ?_
              refine u_st rfl (fun _ => rfl) ?_
              refine u_st rfl (fun _ => rfl) ?_
              show u_P L xs n d m_X5_readMonth 134 [(5, .int (f_X5_here S)), (4, .int (Int32.ofInt 1)), (3, .int (S 66 3)), (2, .int (S 66 4)), (0, .ref 67), (1, .int a)] [.int (S 66 4), .int (Int32.ofInt 1), .int (S 66 3), .ref 67] (g_X5_fail (Int32.ofInt 1) (S 66 4) S) R _
              refine u_cv (rest := []) rfl (by decide) mt_X5_repeat rfl rfl rfl rfl (Nat.le_of_ble_eq_true rfl) (Nat.le_of_ble_eq_true rfl) (Nat.le_of_ble_eq_true rfl) (fun d' => c_X5_repeat L xs n d' (S 66 3) (Int32.ofInt 1) (S 66 4) (g_X5_fail (Int32.ofInt 1) (S 66 4) S) R) ?_
              rintro _ _ _ ⟨rfl, rfl, rfl⟩
              show u_P L xs n d m_X5_readMonth 137 [(5, .int (f_X5_here S)), (4, .int (Int32.ofInt 1)), (3, .int (S 66 3)), (2, .int (S 66 4)), (0, .ref 67), (1, .int a)] [] (g_X5_repeat (S 66 3) (Int32.ofInt 1) (S 66 4) (g_X5_fail (Int32.ofInt 1) (S 66 4) S)) R _
              exact u_ret rfl rfl ⟨rfl, rfl, hD⟩
          · have hD := hD.2 h14
            show u_P L xs n d m_X5_readMonth 94 [(5, .int (f_X5_here S)), (4, .int (Int32.ofInt 1)), (3, .int (S 66 3)), (2, .int (S 66 4)), (0, .ref 67), (1, .int a)] [] S R _
            refine u_st rfl (fun _ => rfl) ?_
            refine u_st rfl (fun _ => rfl) ?_
            show u_P L xs n d m_X5_readMonth 98 [(5, .int (f_X5_here S)), (4, .int (Int32.ofInt 1)), (3, .int (S 66 3)), (2, .int (S 66 4)), (0, .ref 67), (1, .int a)] [.int (Int32.ofInt 74), .int (f_X5_here S)] S R _
            refine u_ic_gt rfl (fun h16 => ?_) (fun h16 => ?_)
            · have hD := hD.1 h16
              show u_P L xs n d m_X5_readMonth 113 [(5, .int (f_X5_here S)), (4, .int (Int32.ofInt 1)), (3, .int (S 66 3)), (2, .int (S 66 4)), (0, .ref 67), (1, .int a)] [] S R _
              refine u_st rfl (fun _ => rfl) ?_
              refine u_st rfl (fun _ => rfl) ?_
              refine u_st rfl (fun _ => rfl) ?_
              show u_P L xs n d m_X5_readMonth 116 [(5, .int (f_X5_here S)), (4, .int (Int32.ofInt 1)), (3, .int (S 66 3)), (2, .int (S 66 4)), (0, .ref 67), (1, .int a)] [.ref 67, .int (Int32.ofInt 1), .ref 67] S R _
              refine u_getE (v := S 66 4) rfl rfl rfl rfl ?_
              show u_P L xs n d m_X5_readMonth 119 [(5, .int (f_X5_here S)), (4, .int (Int32.ofInt 1)), (3, .int (S 66 3)), (2, .int (S 66 4)), (0, .ref 67), (1, .int a)] [.int (S 66 4), .int (Int32.ofInt 1), .ref 67] S R _
              refine u_cv (rest := []) rfl (by decide) mt_X5_fail rfl rfl rfl rfl (Nat.le_of_ble_eq_true rfl) (Nat.le_of_ble_eq_true rfl) (Nat.le_of_ble_eq_true rfl) (fun d' => c_X5_fail L xs n d' (Int32.ofInt 1) (S 66 4) S R) ?_
              rintro _ _ _ ⟨rfl, rfl, rfl⟩
              refine u_st rfl (fun _ => rfl) ?_
              show u_P L xs n d m_X5_readMonth 123 [(5, .int (f_X5_here S)), (4, .int (Int32.ofInt 1)), (3, .int (S 66 3)), (2, .int (S 66 4)), (0, .ref 67), (1, .int a)] [.ref 67] (g_X5_fail (Int32.ofInt 1) (S 66 4) S) R _
              refine u_getE (v := (g_X5_fail (Int32.ofInt 1) (S 66 4) S) 66 6) rfl rfl rfl rfl ?_
              show u_P L xs n d m_X5_readMonth 126 [(5, .int (f_X5_here S)), (4, .int (Int32.ofInt 1)), (3, .int (S 66 3)), (2, .int (S 66 4)), (0, .ref 67), (1, .int a)] [.int ((g_X5_fail (Int32.ofInt 1) (S 66 4) S) 66 6)] (g_X5_fail (Int32.ofInt 1) (S 66 4) S) R _
              refine u_if_ne rfl (fun h17 => ?_) (fun h17 => ?_)
              · have hD := hD.1 h17
                show u_P L xs n d m_X5_readMonth 137 [(5, .int (f_X5_here S)), (4, .int (Int32.ofInt 1)), (3, .int (S 66 3)), (2, .int (S 66 4)), (0, .ref 67), (1, .int a)] [] (g_X5_fail (Int32.ofInt 1) (S 66 4) S) R _
                exact u_ret rfl rfl ⟨rfl, rfl, hD⟩
              · have hD := hD.2 h17
                show u_P L xs n d m_X5_readMonth 129 [(5, .int (f_X5_here S)), (4, .int (Int32.ofInt 1)), (3, .int (S 66 3)), (2, .int (S 66 4)), (0, .ref 67), (1, .int a)] [] (g_X5_fail (Int32.ofInt 1) (S 66 4) S) R _
                refine u_st rfl (fun _ => rfl) ?_
                refine u_st rfl (fun _ => rfl) ?_
                refine u_st rfl (fun _ => rfl) ?_
                refine u_st rfl (fun _ => rfl) ?_
                show u_P L xs n d m_X5_readMonth 134 [(5, .int (f_X5_here S)), (4, .int (Int32.ofInt 1)), (3, .int (S 66 3)), (2, .int (S 66 4)), (0, .ref 67), (1, .int a)] [.int (S 66 4), .int (Int32.ofInt 1), .int (S 66 3), .ref 67] (g_X5_fail (Int32.ofInt 1) (S 66 4) S) R _
                refine u_cv (rest := []) rfl (by decide) mt_X5_repeat rfl rfl rfl rfl (Nat.le_of_ble_eq_true rfl) (Nat.le_of_ble_eq_true rfl) (Nat.le_of_ble_eq_true rfl) (fun d' => c_X5_repeat L xs n d' (S 66 3) (Int32.ofInt 1) (S 66 4) (g_X5_fail (Int32.ofInt 1) (S 66 4) S) R) ?_
                rintro _ _ _ ⟨rfl, rfl, rfl⟩
                show u_P L xs n d m_X5_readMonth 137 [(5, .int (f_X5_here S)), (4, .int (Int32.ofInt 1)), (3, .int (S 66 3)), (2, .int (S 66 4)), (0, .ref 67), (1, .int a)] [] (g_X5_repeat (S 66 3) (Int32.ofInt 1) (S 66 4) (g_X5_fail (Int32.ofInt 1) (S 66 4) S)) R _
                exact u_ret rfl rfl ⟨rfl, rfl, hD⟩
            · have hD := hD.2 h16
              show u_P L xs n d m_X5_readMonth 101 [(5, .int (f_X5_here S)), (4, .int (Int32.ofInt 1)), (3, .int (S 66 3)), (2, .int (S 66 4)), (0, .ref 67), (1, .int a)] [] S R _
              refine u_st rfl (fun _ => rfl) ?_
              refine u_st rfl (fun _ => rfl) ?_
              refine u_st rfl (fun _ => rfl) ?_
              refine u_st rfl (fun _ => rfl) ?_
              show u_P L xs n d m_X5_readMonth 107 [(5, .int (f_X5_here S)), (4, .int (Int32.ofInt 1)), (3, .int (S 66 3)), (2, .int (S 66 4)), (0, .ref 67), (1, .int a)] [.int ((f_X5_here S) - (Int32.ofInt 65)), .ref 67] S R _
              refine u_cv (rest := []) rfl (by decide) mt_X5_writeMonth rfl rfl rfl rfl (Nat.le_of_ble_eq_true rfl) (Nat.le_of_ble_eq_true rfl) (Nat.le_of_ble_eq_true rfl) (fun d' => c_X5_writeMonth L xs n d' ((f_X5_here S) - (Int32.ofInt 65)) S R) ?_
              rintro _ _ _ ⟨rfl, rfl, rfl⟩
              refine u_st rfl (fun _ => rfl) ?_
              refine u_st rfl (fun _ => rfl) ?_
              show u_P L xs n d m_X5_readMonth 123 [(5, .int (f_X5_here S)), (4, .int (Int32.ofInt 1)), (3, .int (S 66 3)), (2, .int (S 66 4)), (0, .ref 67), (1, .int a)] [.ref 67] (g_X5_writeMonth ((f_X5_here S) - (Int32.ofInt 65)) S) R _
              refine u_getE (v := (g_X5_writeMonth ((f_X5_here S) - (Int32.ofInt 65)) S) 66 6) rfl rfl rfl rfl ?_
              show u_P L xs n d m_X5_readMonth 126 [(5, .int (f_X5_here S)), (4, .int (Int32.ofInt 1)), (3, .int (S 66 3)), (2, .int (S 66 4)), (0, .ref 67), (1, .int a)] [.int ((g_X5_writeMonth ((f_X5_here S) - (Int32.ofInt 65)) S) 66 6)] (g_X5_writeMonth ((f_X5_here S) - (Int32.ofInt 65)) S) R _
              refine u_if_ne rfl (fun h18 => ?_) (fun h18 => ?_)
              · have hD := hD.1 h18
                show u_P L xs n d m_X5_readMonth 137 [(5, .int (f_X5_here S)), (4, .int (Int32.ofInt 1)), (3, .int (S 66 3)), (2, .int (S 66 4)), (0, .ref 67), (1, .int a)] [] (g_X5_writeMonth ((f_X5_here S) - (Int32.ofInt 65)) S) R _
                exact u_ret rfl rfl ⟨rfl, rfl, hD⟩
              · have hD := hD.2 h18
                show u_P L xs n d m_X5_readMonth 129 [(5, .int (f_X5_here S)), (4, .int (Int32.ofInt 1)), (3, .int (S 66 3)), (2, .int (S 66 4)), (0, .ref 67), (1, .int a)] [] (g_X5_writeMonth ((f_X5_here S) - (Int32.ofInt 65)) S) R _
                refine u_st rfl (fun _ => rfl) ?_
                refine u_st rfl (fun _ => rfl) ?_
                refine u_st rfl (fun _ => rfl) ?_
                refine u_st rfl (fun _ => rfl) ?_
                show u_P L xs n d m_X5_readMonth 134 [(5, .int (f_X5_here S)), (4, .int (Int32.ofInt 1)), (3, .int (S 66 3)), (2, .int (S 66 4)), (0, .ref 67), (1, .int a)] [.int (S 66 4), .int (Int32.ofInt 1), .int (S 66 3), .ref 67] (g_X5_writeMonth ((f_X5_here S) - (Int32.ofInt 65)) S) R _
                refine u_cv (rest := []) rfl (by decide) mt_X5_repeat rfl rfl rfl rfl (Nat.le_of_ble_eq_true rfl) (Nat.le_of_ble_eq_true rfl) (Nat.le_of_ble_eq_true rfl) (fun d' => c_X5_repeat L xs n d' (S 66 3) (Int32.ofInt 1) (S 66 4) (g_X5_writeMonth ((f_X5_here S) - (Int32.ofInt 65)) S) R) ?_
                rintro _ _ _ ⟨rfl, rfl, rfl⟩
                show u_P L xs n d m_X5_readMonth 137 [(5, .int (f_X5_here S)), (4, .int (Int32.ofInt 1)), (3, .int (S 66 3)), (2, .int (S 66 4)), (0, .ref 67), (1, .int a)] [] (g_X5_repeat (S 66 3) (Int32.ofInt 1) (S 66 4) (g_X5_writeMonth ((f_X5_here S) - (Int32.ofInt 65)) S)) R _
                exact u_ret rfl rfl ⟨rfl, rfl, hD⟩
        · have hD := hD.2 h13
          show u_P L xs n d m_X5_readMonth 78 [(5, .int (f_X5_here S)), (4, .int (Int32.ofInt 1)), (3, .int (S 66 3)), (2, .int (S 66 4)), (0, .ref 67), (1, .int a)] [] S R _
          refine u_st rfl (fun _ => rfl) ?_
          refine u_st rfl (fun _ => rfl) ?_
          show u_P L xs n d m_X5_readMonth 81 [(5, .int (f_X5_here S)), (4, .int (Int32.ofInt 1)), (3, .int (S 66 3)), (2, .int (S 66 4)), (0, .ref 67), (1, .int a)] [.int (Int32.ofInt (-2)), .ref 67] S R _
          refine u_cv (rest := []) rfl (by decide) mt_X5_writeMonth rfl rfl rfl rfl (Nat.le_of_ble_eq_true rfl) (Nat.le_of_ble_eq_true rfl) (Nat.le_of_ble_eq_true rfl) (fun d' => c_X5_writeMonth L xs n d' (Int32.ofInt (-2)) S R) ?_
          rintro _ _ _ ⟨rfl, rfl, rfl⟩
          refine u_st rfl (fun _ => rfl) ?_
          refine u_st rfl (fun _ => rfl) ?_
          show u_P L xs n d m_X5_readMonth 123 [(5, .int (f_X5_here S)), (4, .int (Int32.ofInt 1)), (3, .int (S 66 3)), (2, .int (S 66 4)), (0, .ref 67), (1, .int a)] [.ref 67] (g_X5_writeMonth (Int32.ofInt (-2)) S) R _
          refine u_getE (v := (g_X5_writeMonth (Int32.ofInt (-2)) S) 66 6) rfl rfl rfl rfl ?_
          show u_P L xs n d m_X5_readMonth 126 [(5, .int (f_X5_here S)), (4, .int (Int32.ofInt 1)), (3, .int (S 66 3)), (2, .int (S 66 4)), (0, .ref 67), (1, .int a)] [.int ((g_X5_writeMonth (Int32.ofInt (-2)) S) 66 6)] (g_X5_writeMonth (Int32.ofInt (-2)) S) R _
          refine u_if_ne rfl (fun h19 => ?_) (fun h19 => ?_)
          · have hD := hD.1 h19
            show u_P L xs n d m_X5_readMonth 137 [(5, .int (f_X5_here S)), (4, .int (Int32.ofInt 1)), (3, .int (S 66 3)), (2, .int (S 66 4)), (0, .ref 67), (1, .int a)] [] (g_X5_writeMonth (Int32.ofInt (-2)) S) R _
            exact u_ret rfl rfl ⟨rfl, rfl, hD⟩
          · have hD := hD.2 h19
            show u_P L xs n d m_X5_readMonth 129 [(5, .int (f_X5_here S)), (4, .int (Int32.ofInt 1)), (3, .int (S 66 3)), (2, .int (S 66 4)), (0, .ref 67), (1, .int a)] [] (g_X5_writeMonth (Int32.ofInt (-2)) S) R _
            refine u_st rfl (fun _ => rfl) ?_
            refine u_st rfl (fun _ => rfl) ?_
            refine u_st rfl (fun _ => rfl) ?_
            refine u_st rfl (fun _ => rfl) ?_
            show u_P L xs n d m_X5_readMonth 134 [(5, .int (f_X5_here S)), (4, .int (Int32.ofInt 1)), (3, .int (S 66 3)), (2, .int (S 66 4)), (0, .ref 67), (1, .int a)] [.int (S 66 4), .int (Int32.ofInt 1), .int (S 66 3), .ref 67] (g_X5_writeMonth (Int32.ofInt (-2)) S) R _
            refine u_cv (rest := []) rfl (by decide) mt_X5_repeat rfl rfl rfl rfl (Nat.le_of_ble_eq_true rfl) (Nat.le_of_ble_eq_true rfl) (Nat.le_of_ble_eq_true rfl) (fun d' => c_X5_repeat L xs n d' (S 66 3) (Int32.ofInt 1) (S 66 4) (g_X5_writeMonth (Int32.ofInt (-2)) S) R) ?_
            rintro _ _ _ ⟨rfl, rfl, rfl⟩
            show u_P L xs n d m_X5_readMonth 137 [(5, .int (f_X5_here S)), (4, .int (Int32.ofInt 1)), (3, .int (S 66 3)), (2, .int (S 66 4)), (0, .ref 67), (1, .int a)] [] (g_X5_repeat (S 66 3) (Int32.ofInt 1) (S 66 4) (g_X5_writeMonth (Int32.ofInt (-2)) S)) R _
            exact u_ret rfl rfl ⟨rfl, rfl, hD⟩
      · have hD := hD.2 h12
        show u_P L xs n d m_X5_readMonth 63 [(5, .int (f_X5_here S)), (4, .int (Int32.ofInt 1)), (3, .int (S 66 3)), (2, .int (S 66 4)), (0, .ref 67), (1, .int a)] [] S R _
        refine u_st rfl (fun _ => rfl) ?_
        refine u_st rfl (fun _ => rfl) ?_
        show u_P L xs n d m_X5_readMonth 65 [(5, .int (f_X5_here S)), (4, .int (Int32.ofInt 1)), (3, .int (S 66 3)), (2, .int (S 66 4)), (0, .ref 67), (1, .int a)] [.int a, .ref 67] S R _
        refine u_cv (rest := []) rfl (by decide) mt_X5_readGroup rfl rfl rfl rfl (Nat.le_of_ble_eq_true rfl) (Nat.le_of_ble_eq_true rfl) (Nat.le_of_ble_eq_true rfl) (fun d' => c_readGroupF L xs n d' pr φG hφG a hD.1 S) ?_
        rintro _ _ _ ⟨rfl, rfl, rfl⟩
        have hD := hD.2
        show u_P L xs n d m_X5_readMonth 68 [(5, .int (f_X5_here S)), (4, .int (Int32.ofInt 1)), (3, .int (S 66 3)), (2, .int (S 66 4)), (0, .ref 67), (1, .int a)] [] (g_readGroupF φG a S) R _
        refine u_st rfl (fun _ => rfl) ?_
        refine u_st rfl (fun _ => rfl) ?_
        show u_P L xs n d m_X5_readMonth 123 [(5, .int (f_X5_here S)), (4, .int (Int32.ofInt 1)), (3, .int (S 66 3)), (2, .int (S 66 4)), (0, .ref 67), (1, .int a)] [.ref 67] (g_readGroupF φG a S) R _
        refine u_getE (v := (g_readGroupF φG a S) 66 6) rfl rfl rfl rfl ?_
        show u_P L xs n d m_X5_readMonth 126 [(5, .int (f_X5_here S)), (4, .int (Int32.ofInt 1)), (3, .int (S 66 3)), (2, .int (S 66 4)), (0, .ref 67), (1, .int a)] [.int ((g_readGroupF φG a S) 66 6)] (g_readGroupF φG a S) R _
        refine u_if_ne rfl (fun h20 => ?_) (fun h20 => ?_)
        · have hD := hD.1 h20
          show u_P L xs n d m_X5_readMonth 137 [(5, .int (f_X5_here S)), (4, .int (Int32.ofInt 1)), (3, .int (S 66 3)), (2, .int (S 66 4)), (0, .ref 67), (1, .int a)] [] (g_readGroupF φG a S) R _
          exact u_ret rfl rfl ⟨rfl, rfl, hD⟩
        · have hD := hD.2 h20
          show u_P L xs n d m_X5_readMonth 129 [(5, .int (f_X5_here S)), (4, .int (Int32.ofInt 1)), (3, .int (S 66 3)), (2, .int (S 66 4)), (0, .ref 67), (1, .int a)] [] (g_readGroupF φG a S) R _
          refine u_st rfl (fun _ => rfl) ?_
          refine u_st rfl (fun _ => rfl) ?_
          refine u_st rfl (fun _ => rfl) ?_
          refine u_st rfl (fun _ => rfl) ?_
          show u_P L xs n d m_X5_readMonth 134 [(5, .int (f_X5_here S)), (4, .int (Int32.ofInt 1)), (3, .int (S 66 3)), (2, .int (S 66 4)), (0, .ref 67), (1, .int a)] [.int (S 66 4), .int (Int32.ofInt 1), .int (S 66 3), .ref 67] (g_readGroupF φG a S) R _
          refine u_cv (rest := []) rfl (by decide) mt_X5_repeat rfl rfl rfl rfl (Nat.le_of_ble_eq_true rfl) (Nat.le_of_ble_eq_true rfl) (Nat.le_of_ble_eq_true rfl) (fun d' => c_X5_repeat L xs n d' (S 66 3) (Int32.ofInt 1) (S 66 4) (g_readGroupF φG a S) R) ?_
          rintro _ _ _ ⟨rfl, rfl, rfl⟩
          show u_P L xs n d m_X5_readMonth 137 [(5, .int (f_X5_here S)), (4, .int (Int32.ofInt 1)), (3, .int (S 66 3)), (2, .int (S 66 4)), (0, .ref 67), (1, .int a)] [] (g_X5_repeat (S 66 3) (Int32.ofInt 1) (S 66 4) (g_readGroupF φG a S)) R _
          exact u_ret rfl rfl ⟨rfl, rfl, hD⟩
    · have hD := hD.2 h11
      show u_P L xs n d m_X5_readMonth 31 [(4, .int (Int32.ofInt 1)), (3, .int (S 66 3)), (2, .int (S 66 4)), (0, .ref 67), (1, .int a)] [] S R _
      refine u_st rfl (fun _ => rfl) ?_
      show u_P L xs n d m_X5_readMonth 32 [(4, .int (Int32.ofInt 1)), (3, .int (S 66 3)), (2, .int (S 66 4)), (0, .ref 67), (1, .int a)] [.ref 67] S R _
      refine u_cv (rest := []) rfl (by decide) mt_X5_here rfl rfl rfl rfl (Nat.le_of_ble_eq_true rfl) (Nat.le_of_ble_eq_true rfl) (Nat.le_of_ble_eq_true rfl) (fun d' => c_X5_here L xs n d' S R) ?_
      rintro _ _ _ ⟨_, rfl, rfl, rfl, rfl⟩
      refine u_st rfl (fun _ => rfl) ?_
      refine u_st rfl (fun _ => rfl) ?_
      refine u_st rfl (fun _ => rfl) ?_
      refine u_st rfl (fun _ => rfl) ?_
      refine u_st rfl (fun _ => rfl) ?_
      show u_P L xs n d m_X5_readMonth 42 [(4, .int ((f_X5_here S) - (Int32.ofInt 48))), (3, .int (S 66 3)), (2, .int (S 66 4)), (0, .ref 67), (1, .int a)] [.ref 67, .ref 67] S R _
      refine u_getE (v := S 66 4) rfl rfl rfl rfl ?_
      refine u_st rfl (fun _ => rfl) ?_
      refine u_st rfl (fun _ => rfl) ?_
      show u_P L xs n d m_X5_readMonth 47 [(4, .int ((f_X5_here S) - (Int32.ofInt 48))), (3, .int (S 66 3)), (2, .int (S 66 4)), (0, .ref 67), (1, .int a)] [.int ((S 66 4) + (Int32.ofInt 1)), .ref 67] S R _
      refine u_put rfl rfl rfl ?_
      refine u_st rfl (fun _ => rfl) ?_
      show u_P L xs n d m_X5_readMonth 51 [(4, .int ((f_X5_here S) - (Int32.ofInt 48))), (3, .int (S 66 3)), (2, .int (S 66 4)), (0, .ref 67), (1, .int a)] [.ref 67] (z_s S 66 4 ((S 66 4) + (Int32.ofInt 1))) R _
      refine u_cv (rest := []) rfl (by decide) mt_X5_here rfl rfl rfl rfl (Nat.le_of_ble_eq_true rfl) (Nat.le_of_ble_eq_true rfl) (Nat.le_of_ble_eq_true rfl) (fun d' => c_X5_here L xs n d' (z_s S 66 4 ((S 66 4) + (Int32.ofInt 1))) R) ?_
      rintro _ _ _ ⟨_, rfl, rfl, rfl, rfl⟩
      refine u_st rfl (fun _ => rfl) ?_
      refine u_st rfl (fun _ => rfl) ?_
      refine u_st rfl (fun _ => rfl) ?_
      show u_P L xs n d m_X5_readMonth 60 [(5, .int (f_X5_here (z_s S 66 4 ((S 66 4) + (Int32.ofInt 1))))), (4, .int ((f_X5_here S) - (Int32.ofInt 48))), (3, .int (S 66 3)), (2, .int (S 66 4)), (0, .ref 67), (1, .int a)] [.int (Int32.ofInt 40), .int (f_X5_here (z_s S 66 4 ((S 66 4) + (Int32.ofInt 1))))] (z_s S 66 4 ((S 66 4) + (Int32.ofInt 1))) R _
      refine u_ic_ne rfl (fun h21 => ?_) (fun h21 => ?_)
      · have hD := hD.1 h21
        show u_P L xs n d m_X5_readMonth 71 [(5, .int (f_X5_here (z_s S 66 4 ((S 66 4) + (Int32.ofInt 1))))), (4, .int ((f_X5_here S) - (Int32.ofInt 48))), (3, .int (S 66 3)), (2, .int (S 66 4)), (0, .ref 67), (1, .int a)] [] (z_s S 66 4 ((S 66 4) + (Int32.ofInt 1))) R _
        refine u_st rfl (fun _ => rfl) ?_
        refine u_st rfl (fun _ => rfl) ?_
        show u_P L xs n d m_X5_readMonth 75 [(5, .int (f_X5_here (z_s S 66 4 ((S 66 4) + (Int32.ofInt 1))))), (4, .int ((f_X5_here S) - (Int32.ofInt 48))), (3, .int (S 66 3)), (2, .int (S 66 4)), (0, .ref 67), (1, .int a)] [.int (Int32.ofInt 46), .int (f_X5_here (z_s S 66 4 ((S 66 4) + (Int32.ofInt 1))))] (z_s S 66 4 ((S 66 4) + (Int32.ofInt 1))) R _
        refine u_ic_ne rfl (fun h22 => ?_) (fun h22 => ?_)
        · have hD := hD.1 h22
          show u_P L xs n d m_X5_readMonth 87 [(5, .int (f_X5_here (z_s S 66 4 ((S 66 4) + (Int32.ofInt 1))))), (4, .int ((f_X5_here S) - (Int32.ofInt 48))), (3, .int (S 66 3)), (2, .int (S 66 4)), (0, .ref 67), (1, .int a)] [] (z_s S 66 4 ((S 66 4) + (Int32.ofInt 1))) R _
          refine u_st rfl (fun _ => rfl) ?_
          refine u_st rfl (fun _ => rfl) ?_
          show u_P L xs n d m_X5_readMonth 91 [(5, .int (f_X5_here (z_s S 66 4 ((S 66 4) + (Int32.ofInt 1))))), (4, .int ((f_X5_here S) - (Int32.ofInt 48))), (3, .int (S 66 3)), (2, .int (S 66 4)), (0, .ref 67), (1, .int a)] [.int (Int32.ofInt 65), .int (f_X5_here (z_s S 66 4 ((S 66 4) + (Int32.ofInt 1))))] (z_s S 66 4 ((S 66 4) + (Int32.ofInt 1))) R _
          refine u_ic_lt rfl (fun h23 => ?_) (fun h23 => ?_)
          · have hD := hD.1 h23
            show u_P L xs n d m_X5_readMonth 113 [(5, .int (f_X5_here (z_s S 66 4 ((S 66 4) + (Int32.ofInt 1))))), (4, .int ((f_X5_here S) - (Int32.ofInt 48))), (3, .int (S 66 3)), (2, .int (S 66 4)), (0, .ref 67), (1, .int a)] [] (z_s S 66 4 ((S 66 4) + (Int32.ofInt 1))) R _
            refine u_st rfl (fun _ => rfl) ?_
            refine u_st rfl (fun _ => rfl) ?_
            refine u_st rfl (fun _ => rfl) ?_
            show u_P L xs n d m_X5_readMonth 116 [(5, .int (f_X5_here (z_s S 66 4 ((S 66 4) + (Int32.ofInt 1))))), (4, .int ((f_X5_here S) - (Int32.ofInt 48))), (3, .int (S 66 3)), (2, .int (S 66 4)), (0, .ref 67), (1, .int a)] [.ref 67, .int (Int32.ofInt 1), .ref 67] (z_s S 66 4 ((S 66 4) + (Int32.ofInt 1))) R _
            refine u_getE (v := (S 66 4) + (Int32.ofInt 1)) rfl rfl rfl z_ss ?_
            show u_P L xs n d m_X5_readMonth 119 [(5, .int (f_X5_here (z_s S 66 4 ((S 66 4) + (Int32.ofInt 1))))), (4, .int ((f_X5_here S) - (Int32.ofInt 48))), (3, .int (S 66 3)), (2, .int (S 66 4)), (0, .ref 67), (1, .int a)] [.int ((S 66 4) + (Int32.ofInt 1)), .int (Int32.ofInt 1), .ref 67] (z_s S 66 4 ((S 66 4) + (Int32.ofInt 1))) R _
            refine u_cv (rest := []) rfl (by decide) mt_X5_fail rfl rfl rfl rfl (Nat.le_of_ble_eq_true rfl) (Nat.le_of_ble_eq_true rfl) (Nat.le_of_ble_eq_true rfl) (fun d' => c_X5_fail L xs n d' (Int32.ofInt 1) ((S 66 4) + (Int32.ofInt 1)) (z_s S 66 4 ((S 66 4) + (Int32.ofInt 1))) R) ?_
            rintro _ _ _ ⟨rfl, rfl, rfl⟩
            refine u_st rfl (fun _ => rfl) ?_
            show u_P L xs n d m_X5_readMonth 123 [(5, .int (f_X5_here (z_s S 66 4 ((S 66 4) + (Int32.ofInt 1))))), (4, .int ((f_X5_here S) - (Int32.ofInt 48))), (3, .int (S 66 3)), (2, .int (S 66 4)), (0, .ref 67), (1, .int a)] [.ref 67] (g_X5_fail (Int32.ofInt 1) ((S 66 4) + (Int32.ofInt 1)) (z_s S 66 4 ((S 66 4) + (Int32.ofInt 1)))) R _
            refine u_getE (v := (g_X5_fail (Int32.ofInt 1) ((S 66 4) + (Int32.ofInt 1)) (z_s S 66 4 ((S 66 4) + (Int32.ofInt 1)))) 66 6) rfl rfl rfl rfl ?_
            show u_P L xs n d m_X5_readMonth 126 [(5, .int (f_X5_here (z_s S 66 4 ((S 66 4) + (Int32.ofInt 1))))), (4, .int ((f_X5_here S) - (Int32.ofInt 48))), (3, .int (S 66 3)), (2, .int (S 66 4)), (0, .ref 67), (1, .int a)] [.int ((g_X5_fail (Int32.ofInt 1) ((S 66 4) + (Int32.ofInt 1)) (z_s S 66 4 ((S 66 4) + (Int32.ofInt 1)))) 66 6)] (g_X5_fail (Int32.ofInt 1) ((S 66 4) + (Int32.ofInt 1)) (z_s S 66 4 ((S 66 4) + (Int32.ofInt 1)))) R _
            refine u_if_ne rfl (fun h24 => ?_) (fun h24 => ?_)
            · have hD := hD.1 h24
              show u_P L xs n d m_X5_readMonth 137 [(5, .int (f_X5_here (z_s S 66 4 ((S 66 4) + (Int32.ofInt 1))))), (4, .int ((f_X5_here S) - (Int32.ofInt 48))), (3, .int (S 66 3)), (2, .int (S 66 4)), (0, .ref 67), (1, .int a)] [] (g_X5_fail (Int32.ofInt 1) ((S 66 4) + (Int32.ofInt 1)) (z_s S 66 4 ((S 66 4) + (Int32.ofInt 1)))) R _
              exact u_ret rfl rfl ⟨rfl, rfl, hD⟩
            · have hD := hD.2 h24
              show u_P L xs n d m_X5_readMonth 129 [(5, .int (f_X5_here (z_s S 66 4 ((S 66 4) + (Int32.ofInt 1))))), (4, .int ((f_X5_here S) - (Int32.ofInt 48))), (3, .int (S 66 3)), (2, .int (S 66 4)), (0, .ref 67), (1, .int a)] [] (g_X5_fail (Int32.ofInt 1) ((S 66 4) + (Int32.ofInt 1)) (z_s S 66 4 ((S 66 4) + (Int32.ofInt 1)))) R _
              refine u_st rfl (fun _ => rfl) ?_
              refine u_st rfl (fun _ => rfl) ?_
              refine u_st rfl (fun _ => rfl) ?_
              refine u_st rfl (fun _ => rfl) ?_
              show u_P L xs n d m_X5_readMonth 134 [(5, .int (f_X5_here (z_s S 66 4 ((S 66 4) + (Int32.ofInt 1))))), (4, .int ((f_X5_here S) - (Int32.ofInt 48))), (3, .int (S 66 3)), (2, .int (S 66 4)), (0, .ref 67), (1, .int a)] [.int (S 66 4), .int ((f_X5_here S) - (Int32.ofInt 48)), .int (S 66 3), .ref 67] (g_X5_fail (Int32.ofInt 1) ((S 66 4) + (Int32.ofInt 1)) (z_s S 66 4 ((S 66 4) + (Int32.ofInt 1)))) R _
              refine u_cv (rest := []) rfl (by decide) mt_X5_repeat rfl rfl rfl rfl (Nat.le_of_ble_eq_true rfl) (Nat.le_of_ble_eq_true rfl) (Nat.le_of_ble_eq_true rfl) (fun d' => c_X5_repeat L xs n d' (S 66 3) ((f_X5_here S) - (Int32.ofInt 48)) (S 66 4) (g_X5_fail (Int32.ofInt 1) ((S 66 4) + (Int32.ofInt 1)) (z_s S 66 4 ((S 66 4) + (Int32.ofInt 1)))) R) ?_
              rintro _ _ _ ⟨rfl, rfl, rfl⟩
              show u_P L xs n d m_X5_readMonth 137 [(5, .int (f_X5_here (z_s S 66 4 ((S 66 4) + (Int32.ofInt 1))))), (4, .int ((f_X5_here S) - (Int32.ofInt 48))), (3, .int (S 66 3)), (2, .int (S 66 4)), (0, .ref 67), (1, .int a)] [] (g_X5_repeat (S 66 3) ((f_X5_here S) - (Int32.ofInt 48)) (S 66 4) (g_X5_fail (Int32.ofInt 1) ((S 66 4) + (Int32.ofInt 1)) (z_s S 66 4 ((S 66 4) + (Int32.ofInt 1))))) R _
              exact u_ret rfl rfl ⟨rfl, rfl, hD⟩
          · have hD := hD.2 h23
            show u_P L xs n d m_X5_readMonth 94 [(5, .int (f_X5_here (z_s S 66 4 ((S 66 4) + (Int32.ofInt 1))))), (4, .int ((f_X5_here S) - (Int32.ofInt 48))), (3, .int (S 66 3)), (2, .int (S 66 4)), (0, .ref 67), (1, .int a)] [] (z_s S 66 4 ((S 66 4) + (Int32.ofInt 1))) R _
            refine u_st rfl (fun _ => rfl) ?_
            refine u_st rfl (fun _ => rfl) ?_
            show u_P L xs n d m_X5_readMonth 98 [(5, .int (f_X5_here (z_s S 66 4 ((S 66 4) + (Int32.ofInt 1))))), (4, .int ((f_X5_here S) - (Int32.ofInt 48))), (3, .int (S 66 3)), (2, .int (S 66 4)), (0, .ref 67), (1, .int a)] [.int (Int32.ofInt 74), .int (f_X5_here (z_s S 66 4 ((S 66 4) + (Int32.ofInt 1))))] (z_s S 66 4 ((S 66 4) + (Int32.ofInt 1))) R _
            refine u_ic_gt rfl (fun h25 => ?_) (fun h25 => ?_)
            · have hD := hD.1 h25
              show u_P L xs n d m_X5_readMonth 113 [(5, .int (f_X5_here (z_s S 66 4 ((S 66 4) + (Int32.ofInt 1))))), (4, .int ((f_X5_here S) - (Int32.ofInt 48))), (3, .int (S 66 3)), (2, .int (S 66 4)), (0, .ref 67), (1, .int a)] [] (z_s S 66 4 ((S 66 4) + (Int32.ofInt 1))) R _
              refine u_st rfl (fun _ => rfl) ?_
              refine u_st rfl (fun _ => rfl) ?_
              refine u_st rfl (fun _ => rfl) ?_
              show u_P L xs n d m_X5_readMonth 116 [(5, .int (f_X5_here (z_s S 66 4 ((S 66 4) + (Int32.ofInt 1))))), (4, .int ((f_X5_here S) - (Int32.ofInt 48))), (3, .int (S 66 3)), (2, .int (S 66 4)), (0, .ref 67), (1, .int a)] [.ref 67, .int (Int32.ofInt 1), .ref 67] (z_s S 66 4 ((S 66 4) + (Int32.ofInt 1))) R _
              refine u_getE (v := (S 66 4) + (Int32.ofInt 1)) rfl rfl rfl z_ss ?_
              show u_P L xs n d m_X5_readMonth 119 [(5, .int (f_X5_here (z_s S 66 4 ((S 66 4) + (Int32.ofInt 1))))), (4, .int ((f_X5_here S) - (Int32.ofInt 48))), (3, .int (S 66 3)), (2, .int (S 66 4)), (0, .ref 67), (1, .int a)] [.int ((S 66 4) + (Int32.ofInt 1)), .int (Int32.ofInt 1), .ref 67] (z_s S 66 4 ((S 66 4) + (Int32.ofInt 1))) R _
              refine u_cv (rest := []) rfl (by decide) mt_X5_fail rfl rfl rfl rfl (Nat.le_of_ble_eq_true rfl) (Nat.le_of_ble_eq_true rfl) (Nat.le_of_ble_eq_true rfl) (fun d' => c_X5_fail L xs n d' (Int32.ofInt 1) ((S 66 4) + (Int32.ofInt 1)) (z_s S 66 4 ((S 66 4) + (Int32.ofInt 1))) R) ?_
              rintro _ _ _ ⟨rfl, rfl, rfl⟩
              refine u_st rfl (fun _ => rfl) ?_
              show u_P L xs n d m_X5_readMonth 123 [(5, .int (f_X5_here (z_s S 66 4 ((S 66 4) + (Int32.ofInt 1))))), (4, .int ((f_X5_here S) - (Int32.ofInt 48))), (3, .int (S 66 3)), (2, .int (S 66 4)), (0, .ref 67), (1, .int a)] [.ref 67] (g_X5_fail (Int32.ofInt 1) ((S 66 4) + (Int32.ofInt 1)) (z_s S 66 4 ((S 66 4) + (Int32.ofInt 1)))) R _
              refine u_getE (v := (g_X5_fail (Int32.ofInt 1) ((S 66 4) + (Int32.ofInt 1)) (z_s S 66 4 ((S 66 4) + (Int32.ofInt 1)))) 66 6) rfl rfl rfl rfl ?_
              show u_P L xs n d m_X5_readMonth 126 [(5, .int (f_X5_here (z_s S 66 4 ((S 66 4) + (Int32.ofInt 1))))), (4, .int ((f_X5_here S) - (Int32.ofInt 48))), (3, .int (S 66 3)), (2, .int (S 66 4)), (0, .ref 67), (1, .int a)] [.int ((g_X5_fail (Int32.ofInt 1) ((S 66 4) + (Int32.ofInt 1)) (z_s S 66 4 ((S 66 4) + (Int32.ofInt 1)))) 66 6)] (g_X5_fail (Int32.ofInt 1) ((S 66 4) + (Int32.ofInt 1)) (z_s S 66 4 ((S 66 4) + (Int32.ofInt 1)))) R _
              refine u_if_ne rfl (fun h26 => ?_) (fun h26 => ?_)
              · have hD := hD.1 h26
                show u_P L xs n d m_X5_readMonth 137 [(5, .int (f_X5_here (z_s S 66 4 ((S 66 4) + (Int32.ofInt 1))))), (4, .int ((f_X5_here S) - (Int32.ofInt 48))), (3, .int (S 66 3)), (2, .int (S 66 4)), (0, .ref 67), (1, .int a)] [] (g_X5_fail (Int32.ofInt 1) ((S 66 4) + (Int32.ofInt 1)) (z_s S 66 4 ((S 66 4) + (Int32.ofInt 1)))) R _
                exact u_ret rfl rfl ⟨rfl, rfl, hD⟩
              · have hD := hD.2 h26
                show u_P L xs n d m_X5_readMonth 129 [(5, .int (f_X5_here (z_s S 66 4 ((S 66 4) + (Int32.ofInt 1))))), (4, .int ((f_X5_here S) - (Int32.ofInt 48))), (3, .int (S 66 3)), (2, .int (S 66 4)), (0, .ref 67), (1, .int a)] [] (g_X5_fail (Int32.ofInt 1) ((S 66 4) + (Int32.ofInt 1)) (z_s S 66 4 ((S 66 4) + (Int32.ofInt 1)))) R _
                refine u_st rfl (fun _ => rfl) ?_
                refine u_st rfl (fun _ => rfl) ?_
                refine u_st rfl (fun _ => rfl) ?_
                refine u_st rfl (fun _ => rfl) ?_
                show u_P L xs n d m_X5_readMonth 134 [(5, .int (f_X5_here (z_s S 66 4 ((S 66 4) + (Int32.ofInt 1))))), (4, .int ((f_X5_here S) - (Int32.ofInt 48))), (3, .int (S 66 3)), (2, .int (S 66 4)), (0, .ref 67), (1, .int a)] [.int (S 66 4), .int ((f_X5_here S) - (Int32.ofInt 48)), .int (S 66 3), .ref 67] (g_X5_fail (Int32.ofInt 1) ((S 66 4) + (Int32.ofInt 1)) (z_s S 66 4 ((S 66 4) + (Int32.ofInt 1)))) R _
                refine u_cv (rest := []) rfl (by decide) mt_X5_repeat rfl rfl rfl rfl (Nat.le_of_ble_eq_true rfl) (Nat.le_of_ble_eq_true rfl) (Nat.le_of_ble_eq_true rfl) (fun d' => c_X5_repeat L xs n d' (S 66 3) ((f_X5_here S) - (Int32.ofInt 48)) (S 66 4) (g_X5_fail (Int32.ofInt 1) ((S 66 4) + (Int32.ofInt 1)) (z_s S 66 4 ((S 66 4) + (Int32.ofInt 1)))) R) ?_
                rintro _ _ _ ⟨rfl, rfl, rfl⟩
                show u_P L xs n d m_X5_readMonth 137 [(5, .int (f_X5_here (z_s S 66 4 ((S 66 4) + (Int32.ofInt 1))))), (4, .int ((f_X5_here S) - (Int32.ofInt 48))), (3, .int (S 66 3)), (2, .int (S 66 4)), (0, .ref 67), (1, .int a)] [] (g_X5_repeat (S 66 3) ((f_X5_here S) - (Int32.ofInt 48)) (S 66 4) (g_X5_fail (Int32.ofInt 1) ((S 66 4) + (Int32.ofInt 1)) (z_s S 66 4 ((S 66 4) + (Int32.ofInt 1))))) R _
                exact u_ret rfl rfl ⟨rfl, rfl, hD⟩
            · have hD := hD.2 h25
              show u_P L xs n d m_X5_readMonth 101 [(5, .int (f_X5_here (z_s S 66 4 ((S 66 4) + (Int32.ofInt 1))))), (4, .int ((f_X5_here S) - (Int32.ofInt 48))), (3, .int (S 66 3)), (2, .int (S 66 4)), (0, .ref 67), (1, .int a)] [] (z_s S 66 4 ((S 66 4) + (Int32.ofInt 1))) R _
              refine u_st rfl (fun _ => rfl) ?_
              refine u_st rfl (fun _ => rfl) ?_
              refine u_st rfl (fun _ => rfl) ?_
              refine u_st rfl (fun _ => rfl) ?_
              show u_P L xs n d m_X5_readMonth 107 [(5, .int (f_X5_here (z_s S 66 4 ((S 66 4) + (Int32.ofInt 1))))), (4, .int ((f_X5_here S) - (Int32.ofInt 48))), (3, .int (S 66 3)), (2, .int (S 66 4)), (0, .ref 67), (1, .int a)] [.int ((f_X5_here (z_s S 66 4 ((S 66 4) + (Int32.ofInt 1)))) - (Int32.ofInt 65)), .ref 67] (z_s S 66 4 ((S 66 4) + (Int32.ofInt 1))) R _
              refine u_cv (rest := []) rfl (by decide) mt_X5_writeMonth rfl rfl rfl rfl (Nat.le_of_ble_eq_true rfl) (Nat.le_of_ble_eq_true rfl) (Nat.le_of_ble_eq_true rfl) (fun d' => c_X5_writeMonth L xs n d' ((f_X5_here (z_s S 66 4 ((S 66 4) + (Int32.ofInt 1)))) - (Int32.ofInt 65)) (z_s S 66 4 ((S 66 4) + (Int32.ofInt 1))) R) ?_
              rintro _ _ _ ⟨rfl, rfl, rfl⟩
              refine u_st rfl (fun _ => rfl) ?_
              refine u_st rfl (fun _ => rfl) ?_
              show u_P L xs n d m_X5_readMonth 123 [(5, .int (f_X5_here (z_s S 66 4 ((S 66 4) + (Int32.ofInt 1))))), (4, .int ((f_X5_here S) - (Int32.ofInt 48))), (3, .int (S 66 3)), (2, .int (S 66 4)), (0, .ref 67), (1, .int a)] [.ref 67] (g_X5_writeMonth ((f_X5_here (z_s S 66 4 ((S 66 4) + (Int32.ofInt 1)))) - (Int32.ofInt 65)) (z_s S 66 4 ((S 66 4) + (Int32.ofInt 1)))) R _
              refine u_getE (v := (g_X5_writeMonth ((f_X5_here (z_s S 66 4 ((S 66 4) + (Int32.ofInt 1)))) - (Int32.ofInt 65)) (z_s S 66 4 ((S 66 4) + (Int32.ofInt 1)))) 66 6) rfl rfl rfl rfl ?_
              show u_P L xs n d m_X5_readMonth 126 [(5, .int (f_X5_here (z_s S 66 4 ((S 66 4) + (Int32.ofInt 1))))), (4, .int ((f_X5_here S) - (Int32.ofInt 48))), (3, .int (S 66 3)), (2, .int (S 66 4)), (0, .ref 67), (1, .int a)] [.int ((g_X5_writeMonth ((f_X5_here (z_s S 66 4 ((S 66 4) + (Int32.ofInt 1)))) - (Int32.ofInt 65)) (z_s S 66 4 ((S 66 4) + (Int32.ofInt 1)))) 66 6)] (g_X5_writeMonth ((f_X5_here (z_s S 66 4 ((S 66 4) + (Int32.ofInt 1)))) - (Int32.ofInt 65)) (z_s S 66 4 ((S 66 4) + (Int32.ofInt 1)))) R _
              refine u_if_ne rfl (fun h27 => ?_) (fun h27 => ?_)
              · have hD := hD.1 h27
                show u_P L xs n d m_X5_readMonth 137 [(5, .int (f_X5_here (z_s S 66 4 ((S 66 4) + (Int32.ofInt 1))))), (4, .int ((f_X5_here S) - (Int32.ofInt 48))), (3, .int (S 66 3)), (2, .int (S 66 4)), (0, .ref 67), (1, .int a)] [] (g_X5_writeMonth ((f_X5_here (z_s S 66 4 ((S 66 4) + (Int32.ofInt 1)))) - (Int32.ofInt 65)) (z_s S 66 4 ((S 66 4) + (Int32.ofInt 1)))) R _
                exact u_ret rfl rfl ⟨rfl, rfl, hD⟩
              · have hD := hD.2 h27
                show u_P L xs n d m_X5_readMonth 129 [(5, .int (f_X5_here (z_s S 66 4 ((S 66 4) + (Int32.ofInt 1))))), (4, .int ((f_X5_here S) - (Int32.ofInt 48))), (3, .int (S 66 3)), (2, .int (S 66 4)), (0, .ref 67), (1, .int a)] [] (g_X5_writeMonth ((f_X5_here (z_s S 66 4 ((S 66 4) + (Int32.ofInt 1)))) - (Int32.ofInt 65)) (z_s S 66 4 ((S 66 4) + (Int32.ofInt 1)))) R _
                refine u_st rfl (fun _ => rfl) ?_
                refine u_st rfl (fun _ => rfl) ?_
                refine u_st rfl (fun _ => rfl) ?_
                refine u_st rfl (fun _ => rfl) ?_
                show u_P L xs n d m_X5_readMonth 134 [(5, .int (f_X5_here (z_s S 66 4 ((S 66 4) + (Int32.ofInt 1))))), (4, .int ((f_X5_here S) - (Int32.ofInt 48))), (3, .int (S 66 3)), (2, .int (S 66 4)), (0, .ref 67), (1, .int a)] [.int (S 66 4), .int ((f_X5_here S) - (Int32.ofInt 48)), .int (S 66 3), .ref 67] (g_X5_writeMonth ((f_X5_here (z_s S 66 4 ((S 66 4) + (Int32.ofInt 1)))) - (Int32.ofInt 65)) (z_s S 66 4 ((S 66 4) + (Int32.ofInt 1)))) R _
                refine u_cv (rest := []) rfl (by decide) mt_X5_repeat rfl rfl rfl rfl (Nat.le_of_ble_eq_true rfl) (Nat.le_of_ble_eq_true rfl) (Nat.le_of_ble_eq_true rfl) (fun d' => c_X5_repeat L xs n d' (S 66 3) ((f_X5_here S) - (Int32.ofInt 48)) (S 66 4) (g_X5_writeMonth ((f_X5_here (z_s S 66 4 ((S 66 4) + (Int32.ofInt 1)))) - (Int32.ofInt 65)) (z_s S 66 4 ((S 66 4) + (Int32.ofInt 1)))) R) ?_
                rintro _ _ _ ⟨rfl, rfl, rfl⟩
                show u_P L xs n d m_X5_readMonth 137 [(5, .int (f_X5_here (z_s S 66 4 ((S 66 4) + (Int32.ofInt 1))))), (4, .int ((f_X5_here S) - (Int32.ofInt 48))), (3, .int (S 66 3)), (2, .int (S 66 4)), (0, .ref 67), (1, .int a)] [] (g_X5_repeat (S 66 3) ((f_X5_here S) - (Int32.ofInt 48)) (S 66 4) (g_X5_writeMonth ((f_X5_here (z_s S 66 4 ((S 66 4) + (Int32.ofInt 1)))) - (Int32.ofInt 65)) (z_s S 66 4 ((S 66 4) + (Int32.ofInt 1))))) R _
                exact u_ret rfl rfl ⟨rfl, rfl, hD⟩
        · have hD := hD.2 h22
          show u_P L xs n d m_X5_readMonth 78 [(5, .int (f_X5_here (z_s S 66 4 ((S 66 4) + (Int32.ofInt 1))))), (4, .int ((f_X5_here S) - (Int32.ofInt 48))), (3, .int (S 66 3)), (2, .int (S 66 4)), (0, .ref 67), (1, .int a)] [] (z_s S 66 4 ((S 66 4) + (Int32.ofInt 1))) R _
          refine u_st rfl (fun _ => rfl) ?_
          refine u_st rfl (fun _ => rfl) ?_
          show u_P L xs n d m_X5_readMonth 81 [(5, .int (f_X5_here (z_s S 66 4 ((S 66 4) + (Int32.ofInt 1))))), (4, .int ((f_X5_here S) - (Int32.ofInt 48))), (3, .int (S 66 3)), (2, .int (S 66 4)), (0, .ref 67), (1, .int a)] [.int (Int32.ofInt (-2)), .ref 67] (z_s S 66 4 ((S 66 4) + (Int32.ofInt 1))) R _
          refine u_cv (rest := []) rfl (by decide) mt_X5_writeMonth rfl rfl rfl rfl (Nat.le_of_ble_eq_true rfl) (Nat.le_of_ble_eq_true rfl) (Nat.le_of_ble_eq_true rfl) (fun d' => c_X5_writeMonth L xs n d' (Int32.ofInt (-2)) (z_s S 66 4 ((S 66 4) + (Int32.ofInt 1))) R) ?_
          rintro _ _ _ ⟨rfl, rfl, rfl⟩
          refine u_st rfl (fun _ => rfl) ?_
          refine u_st rfl (fun _ => rfl) ?_
          show u_P L xs n d m_X5_readMonth 123 [(5, .int (f_X5_here (z_s S 66 4 ((S 66 4) + (Int32.ofInt 1))))), (4, .int ((f_X5_here S) - (Int32.ofInt 48))), (3, .int (S 66 3)), (2, .int (S 66 4)), (0, .ref 67), (1, .int a)] [.ref 67] (g_X5_writeMonth (Int32.ofInt (-2)) (z_s S 66 4 ((S 66 4) + (Int32.ofInt 1)))) R _
          refine u_getE (v := (g_X5_writeMonth (Int32.ofInt (-2)) (z_s S 66 4 ((S 66 4) + (Int32.ofInt 1)))) 66 6) rfl rfl rfl rfl ?_
          show u_P L xs n d m_X5_readMonth 126 [(5, .int (f_X5_here (z_s S 66 4 ((S 66 4) + (Int32.ofInt 1))))), (4, .int ((f_X5_here S) - (Int32.ofInt 48))), (3, .int (S 66 3)), (2, .int (S 66 4)), (0, .ref 67), (1, .int a)] [.int ((g_X5_writeMonth (Int32.ofInt (-2)) (z_s S 66 4 ((S 66 4) + (Int32.ofInt 1)))) 66 6)] (g_X5_writeMonth (Int32.ofInt (-2)) (z_s S 66 4 ((S 66 4) + (Int32.ofInt 1)))) R _
          refine u_if_ne rfl (fun h28 => ?_) (fun h28 => ?_)
          · have hD := hD.1 h28
            show u_P L xs n d m_X5_readMonth 137 [(5, .int (f_X5_here (z_s S 66 4 ((S 66 4) + (Int32.ofInt 1))))), (4, .int ((f_X5_here S) - (Int32.ofInt 48))), (3, .int (S 66 3)), (2, .int (S 66 4)), (0, .ref 67), (1, .int a)] [] (g_X5_writeMonth (Int32.ofInt (-2)) (z_s S 66 4 ((S 66 4) + (Int32.ofInt 1)))) R _
            exact u_ret rfl rfl ⟨rfl, rfl, hD⟩
          · have hD := hD.2 h28
            show u_P L xs n d m_X5_readMonth 129 [(5, .int (f_X5_here (z_s S 66 4 ((S 66 4) + (Int32.ofInt 1))))), (4, .int ((f_X5_here S) - (Int32.ofInt 48))), (3, .int (S 66 3)), (2, .int (S 66 4)), (0, .ref 67), (1, .int a)] [] (g_X5_writeMonth (Int32.ofInt (-2)) (z_s S 66 4 ((S 66 4) + (Int32.ofInt 1)))) R _
            refine u_st rfl (fun _ => rfl) ?_
            refine u_st rfl (fun _ => rfl) ?_
            refine u_st rfl (fun _ => rfl) ?_
            refine u_st rfl (fun _ => rfl) ?_
            show u_P L xs n d m_X5_readMonth 134 [(5, .int (f_X5_here (z_s S 66 4 ((S 66 4) + (Int32.ofInt 1))))), (4, .int ((f_X5_here S) - (Int32.ofInt 48))), (3, .int (S 66 3)), (2, .int (S 66 4)), (0, .ref 67), (1, .int a)] [.int (S 66 4), .int ((f_X5_here S) - (Int32.ofInt 48)), .int (S 66 3), .ref 67] (g_X5_writeMonth (Int32.ofInt (-2)) (z_s S 66 4 ((S 66 4) + (Int32.ofInt 1)))) R _
            refine u_cv (rest := []) rfl (by decide) mt_X5_repeat rfl rfl rfl rfl (Nat.le_of_ble_eq_true rfl) (Nat.le_of_ble_eq_true rfl) (Nat.le_of_ble_eq_true rfl) (fun d' => c_X5_repeat L xs n d' (S 66 3) ((f_X5_here S) - (Int32.ofInt 48)) (S 66 4) (g_X5_writeMonth (Int32.ofInt (-2)) (z_s S 66 4 ((S 66 4) + (Int32.ofInt 1)))) R) ?_
            rintro _ _ _ ⟨rfl, rfl, rfl⟩
            show u_P L xs n d m_X5_readMonth 137 [(5, .int (f_X5_here (z_s S 66 4 ((S 66 4) + (Int32.ofInt 1))))), (4, .int ((f_X5_here S) - (Int32.ofInt 48))), (3, .int (S 66 3)), (2, .int (S 66 4)), (0, .ref 67), (1, .int a)] [] (g_X5_repeat (S 66 3) ((f_X5_here S) - (Int32.ofInt 48)) (S 66 4) (g_X5_writeMonth (Int32.ofInt (-2)) (z_s S 66 4 ((S 66 4) + (Int32.ofInt 1))))) R _
            exact u_ret rfl rfl ⟨rfl, rfl, hD⟩
      · have hD := hD.2 h21
        show u_P L xs n d m_X5_readMonth 63 [(5, .int (f_X5_here (z_s S 66 4 ((S 66 4) + (Int32.ofInt 1))))), (4, .int ((f_X5_here S) - (Int32.ofInt 48))), (3, .int (S 66 3)), (2, .int (S 66 4)), (0, .ref 67), (1, .int a)] [] (z_s S 66 4 ((S 66 4) + (Int32.ofInt 1))) R _
        refine u_st rfl (fun _ => rfl) ?_
        refine u_st rfl (fun _ => rfl) ?_
        show u_P L xs n d m_X5_readMonth 65 [(5, .int (f_X5_here (z_s S 66 4 ((S 66 4) + (Int32.ofInt 1))))), (4, .int ((f_X5_here S) - (Int32.ofInt 48))), (3, .int (S 66 3)), (2, .int (S 66 4)), (0, .ref 67), (1, .int a)] [.int a, .ref 67] (z_s S 66 4 ((S 66 4) + (Int32.ofInt 1))) R _
        refine u_cv (rest := []) rfl (by decide) mt_X5_readGroup rfl rfl rfl rfl (Nat.le_of_ble_eq_true rfl) (Nat.le_of_ble_eq_true rfl) (Nat.le_of_ble_eq_true rfl) (fun d' => c_readGroupF L xs n d' pr φG hφG a hD.1 (z_s S 66 4 ((S 66 4) + (Int32.ofInt 1)))) ?_
        rintro _ _ _ ⟨rfl, rfl, rfl⟩
        have hD := hD.2
        show u_P L xs n d m_X5_readMonth 68 [(5, .int (f_X5_here (z_s S 66 4 ((S 66 4) + (Int32.ofInt 1))))), (4, .int ((f_X5_here S) - (Int32.ofInt 48))), (3, .int (S 66 3)), (2, .int (S 66 4)), (0, .ref 67), (1, .int a)] [] (g_readGroupF φG a (z_s S 66 4 ((S 66 4) + (Int32.ofInt 1)))) R _
        refine u_st rfl (fun _ => rfl) ?_
        refine u_st rfl (fun _ => rfl) ?_
        show u_P L xs n d m_X5_readMonth 123 [(5, .int (f_X5_here (z_s S 66 4 ((S 66 4) + (Int32.ofInt 1))))), (4, .int ((f_X5_here S) - (Int32.ofInt 48))), (3, .int (S 66 3)), (2, .int (S 66 4)), (0, .ref 67), (1, .int a)] [.ref 67] (g_readGroupF φG a (z_s S 66 4 ((S 66 4) + (Int32.ofInt 1)))) R _
        refine u_getE (v := (g_readGroupF φG a (z_s S 66 4 ((S 66 4) + (Int32.ofInt 1)))) 66 6) rfl rfl rfl rfl ?_
        show u_P L xs n d m_X5_readMonth 126 [(5, .int (f_X5_here (z_s S 66 4 ((S 66 4) + (Int32.ofInt 1))))), (4, .int ((f_X5_here S) - (Int32.ofInt 48))), (3, .int (S 66 3)), (2, .int (S 66 4)), (0, .ref 67), (1, .int a)] [.int ((g_readGroupF φG a (z_s S 66 4 ((S 66 4) + (Int32.ofInt 1)))) 66 6)] (g_readGroupF φG a (z_s S 66 4 ((S 66 4) + (Int32.ofInt 1)))) R _
        refine u_if_ne rfl (fun h29 => ?_) (fun h29 => ?_)
        · have hD := hD.1 h29
          show u_P L xs n d m_X5_readMonth 137 [(5, .int (f_X5_here (z_s S 66 4 ((S 66 4) + (Int32.ofInt 1))))), (4, .int ((f_X5_here S) - (Int32.ofInt 48))), (3, .int (S 66 3)), (2, .int (S 66 4)), (0, .ref 67), (1, .int a)] [] (g_readGroupF φG a (z_s S 66 4 ((S 66 4) + (Int32.ofInt 1)))) R _
          exact u_ret rfl rfl ⟨rfl, rfl, hD⟩
        · have hD := hD.2 h29
          show u_P L xs n d m_X5_readMonth 129 [(5, .int (f_X5_here (z_s S 66 4 ((S 66 4) + (Int32.ofInt 1))))), (4, .int ((f_X5_here S) - (Int32.ofInt 48))), (3, .int (S 66 3)), (2, .int (S 66 4)), (0, .ref 67), (1, .int a)] [] (g_readGroupF φG a (z_s S 66 4 ((S 66 4) + (Int32.ofInt 1)))) R _
          refine u_st rfl (fun _ => rfl) ?_
          refine u_st rfl (fun _ => rfl) ?_
          refine u_st rfl (fun _ => rfl) ?_
          refine u_st rfl (fun _ => rfl) ?_
          show u_P L xs n d m_X5_readMonth 134 [(5, .int (f_X5_here (z_s S 66 4 ((S 66 4) + (Int32.ofInt 1))))), (4, .int ((f_X5_here S) - (Int32.ofInt 48))), (3, .int (S 66 3)), (2, .int (S 66 4)), (0, .ref 67), (1, .int a)] [.int (S 66 4), .int ((f_X5_here S) - (Int32.ofInt 48)), .int (S 66 3), .ref 67] (g_readGroupF φG a (z_s S 66 4 ((S 66 4) + (Int32.ofInt 1)))) R _
          refine u_cv (rest := []) rfl (by decide) mt_X5_repeat rfl rfl rfl rfl (Nat.le_of_ble_eq_true rfl) (Nat.le_of_ble_eq_true rfl) (Nat.le_of_ble_eq_true rfl) (fun d' => c_X5_repeat L xs n d' (S 66 3) ((f_X5_here S) - (Int32.ofInt 48)) (S 66 4) (g_readGroupF φG a (z_s S 66 4 ((S 66 4) + (Int32.ofInt 1)))) R) ?_
          rintro _ _ _ ⟨rfl, rfl, rfl⟩
          show u_P L xs n d m_X5_readMonth 137 [(5, .int (f_X5_here (z_s S 66 4 ((S 66 4) + (Int32.ofInt 1))))), (4, .int ((f_X5_here S) - (Int32.ofInt 48))), (3, .int (S 66 3)), (2, .int (S 66 4)), (0, .ref 67), (1, .int a)] [] (g_X5_repeat (S 66 3) ((f_X5_here S) - (Int32.ofInt 48)) (S 66 4) (g_readGroupF φG a (z_s S 66 4 ((S 66 4) + (Int32.ofInt 1))))) R _
          exact u_ret rfl rfl ⟨rfl, rfl, hD⟩
noncomputable def F_readMonthF (φG : Int32 → v_Sf → v_Sf) (a : Int32) (S : v_Sf) : v_Sf := (if (f_X5_here S) < (Int32.ofInt 50) then (if ¬ (f_X5_here S) = (Int32.ofInt 40) then (if ¬ (f_X5_here S) = (Int32.ofInt 46) then (if (f_X5_here S) < (Int32.ofInt 65) then (if ¬ ((g_X5_fail (Int32.ofInt 1) (S 66 4) S) 66 6) = 0 then g_X5_fail (Int32.ofInt 1) (S 66 4) S else g_X5_repeat (S 66 3) (Int32.ofInt 1) (S 66 4) (g_X5_fail (Int32.ofInt 1) (S 66 4) S)) else (if (Int32.ofInt 74) < (f_X5_here S) then (if ¬ ((g_X5_fail (Int32.ofInt 1) (S 66 4) S) 66 6) = 0 then g_X5_fail (Int32.ofInt 1) (S 66 4) S else g_X5_repeat (S 66 3) (Int32.ofInt 1) (S 66 4) (g_X5_fail (Int32.ofInt 1) (S 66 4) S)) else (if ¬ ((g_X5_writeMonth ((f_X5_here S) - (Int32.ofInt 65)) S) 66 6) = 0 then g_X5_writeMonth ((f_X5_here S) - (Int32.ofInt 65)) S else g_X5_repeat (S 66 3) (Int32.ofInt 1) (S 66 4) (g_X5_writeMonth ((f_X5_here S) - (Int32.ofInt 65)) S)))) else (if ¬ ((g_X5_writeMonth (Int32.ofInt (-2)) S) 66 6) = 0 then g_X5_writeMonth (Int32.ofInt (-2)) S else g_X5_repeat (S 66 3) (Int32.ofInt 1) (S 66 4) (g_X5_writeMonth (Int32.ofInt (-2)) S))) else (if ¬ ((g_readGroupF φG a S) 66 6) = 0 then g_readGroupF φG a S else g_X5_repeat (S 66 3) (Int32.ofInt 1) (S 66 4) (g_readGroupF φG a S))) else (if (Int32.ofInt 57) < (f_X5_here S) then (if ¬ (f_X5_here S) = (Int32.ofInt 40) then (if ¬ (f_X5_here S) = (Int32.ofInt 46) then (if (f_X5_here S) < (Int32.ofInt 65) then (if ¬ ((g_X5_fail (Int32.ofInt 1) (S 66 4) S) 66 6) = 0 then g_X5_fail (Int32.ofInt 1) (S 66 4) S else g_X5_repeat (S 66 3) (Int32.ofInt 1) (S 66 4) (g_X5_fail (Int32.ofInt 1) (S 66 4) S)) else (if (Int32.ofInt 74) < (f_X5_here S) then (if ¬ ((g_X5_fail (Int32.ofInt 1) (S 66 4) S) 66 6) = 0 then g_X5_fail (Int32.ofInt 1) (S 66 4) S else g_X5_repeat (S 66 3) (Int32.ofInt 1) (S 66 4) (g_X5_fail (Int32.ofInt 1) (S 66 4) S)) else (if ¬ ((g_X5_writeMonth ((f_X5_here S) - (Int32.ofInt 65)) S) 66 6) = 0 then g_X5_writeMonth ((f_X5_here S) - (Int32.ofInt 65)) S else g_X5_repeat (S 66 3) (Int32.ofInt 1) (S 66 4) (g_X5_writeMonth ((f_X5_here S) - (Int32.ofInt 65)) S)))) else (if ¬ ((g_X5_writeMonth (Int32.ofInt (-2)) S) 66 6) = 0 then g_X5_writeMonth (Int32.ofInt (-2)) S else g_X5_repeat (S 66 3) (Int32.ofInt 1) (S 66 4) (g_X5_writeMonth (Int32.ofInt (-2)) S))) else (if ¬ ((g_readGroupF φG a S) 66 6) = 0 then g_readGroupF φG a S else g_X5_repeat (S 66 3) (Int32.ofInt 1) (S 66 4) (g_readGroupF φG a S))) else (if ¬ (f_X5_here (z_s S 66 4 ((S 66 4) + (Int32.ofInt 1)))) = (Int32.ofInt 40) then (if ¬ (f_X5_here (z_s S 66 4 ((S 66 4) + (Int32.ofInt 1)))) = (Int32.ofInt 46) then (if (f_X5_here (z_s S 66 4 ((S 66 4) + (Int32.ofInt 1)))) < (Int32.ofInt 65) then (if ¬ ((g_X5_fail (Int32.ofInt 1) ((S 66 4) + (Int32.ofInt 1)) (z_s S 66 4 ((S 66 4) + (Int32.ofInt 1)))) 66 6) = 0 then g_X5_fail (Int32.ofInt 1) ((S 66 4) + (Int32.ofInt 1)) (z_s S 66 4 ((S 66 4) + (Int32.ofInt 1))) else g_X5_repeat (S 66 3) ((f_X5_here S) - (Int32.ofInt 48)) (S 66 4) (g_X5_fail (Int32.ofInt 1) ((S 66 4) + (Int32.ofInt 1)) (z_s S 66 4 ((S 66 4) + (Int32.ofInt 1))))) else (if (Int32.ofInt 74) < (f_X5_here (z_s S 66 4 ((S 66 4) + (Int32.ofInt 1)))) then (if ¬ ((g_X5_fail (Int32.ofInt 1) ((S 66 4) + (Int32.ofInt 1)) (z_s S 66 4 ((S 66 4) + (Int32.ofInt 1)))) 66 6) = 0 then g_X5_fail (Int32.ofInt 1) ((S 66 4) + (Int32.ofInt 1)) (z_s S 66 4 ((S 66 4) + (Int32.ofInt 1))) else g_X5_repeat (S 66 3) ((f_X5_here S) - (Int32.ofInt 48)) (S 66 4) (g_X5_fail (Int32.ofInt 1) ((S 66 4) + (Int32.ofInt 1)) (z_s S 66 4 ((S 66 4) + (Int32.ofInt 1))))) else (if ¬ ((g_X5_writeMonth ((f_X5_here (z_s S 66 4 ((S 66 4) + (Int32.ofInt 1)))) - (Int32.ofInt 65)) (z_s S 66 4 ((S 66 4) + (Int32.ofInt 1)))) 66 6) = 0 then g_X5_writeMonth ((f_X5_here (z_s S 66 4 ((S 66 4) + (Int32.ofInt 1)))) - (Int32.ofInt 65)) (z_s S 66 4 ((S 66 4) + (Int32.ofInt 1))) else g_X5_repeat (S 66 3) ((f_X5_here S) - (Int32.ofInt 48)) (S 66 4) (g_X5_writeMonth ((f_X5_here (z_s S 66 4 ((S 66 4) + (Int32.ofInt 1)))) - (Int32.ofInt 65)) (z_s S 66 4 ((S 66 4) + (Int32.ofInt 1))))))) else (if ¬ ((g_X5_writeMonth (Int32.ofInt (-2)) (z_s S 66 4 ((S 66 4) + (Int32.ofInt 1)))) 66 6) = 0 then g_X5_writeMonth (Int32.ofInt (-2)) (z_s S 66 4 ((S 66 4) + (Int32.ofInt 1))) else g_X5_repeat (S 66 3) ((f_X5_here S) - (Int32.ofInt 48)) (S 66 4) (g_X5_writeMonth (Int32.ofInt (-2)) (z_s S 66 4 ((S 66 4) + (Int32.ofInt 1)))))) else (if ¬ ((g_readGroupF φG a (z_s S 66 4 ((S 66 4) + (Int32.ofInt 1)))) 66 6) = 0 then g_readGroupF φG a (z_s S 66 4 ((S 66 4) + (Int32.ofInt 1))) else g_X5_repeat (S 66 3) ((f_X5_here S) - (Int32.ofInt 48)) (S 66 4) (g_readGroupF φG a (z_s S 66 4 ((S 66 4) + (Int32.ofInt 1))))))))
noncomputable def g_readMonthF (φG : Int32 → v_Sf → v_Sf) (a : Int32) (S : v_Sf) : v_Sf := F_readMonthF φG a S
theorem c_readMonthF (L : Nat) (xs : Nat → Int32) (n d : Nat) {R : v_Rf} (pr : Int32 → Prop) (φG : Int32 → v_Sf → v_Sf) (hφG : ∀ (n d : Nat) (i : Int32) (S : v_Sf), pr i → u_P L xs n d m_X5_readMonths 0 (lv_args 0 [.ref 67, .int i]) [] S R (z_V R (fun S1 => φG i S = S1))) (a : Int32) (hs : a < (Int32.ofInt 2) → pr (a + (Int32.ofInt 1))) (S : v_Sf) : u_P L xs n d m_X5_readMonth 0 (lv_args 0 [.ref 67, .int a]) [] S R (z_V R (fun S1 => g_readMonthF φG a S = S1)) := by
  refine w_readMonthF L xs pr φG hφG a  (fun S1 => g_readMonthF φG a S = S1)  n d S ?_
  · unfold D_readMonthF
    refine ⟨fun q1 => ?_, fun q1 => ?_⟩
    · refine ⟨fun q2 => ?_, fun q2 => ?_⟩
      · refine ⟨fun q3 => ?_, fun q3 => ?_⟩
        · refine ⟨fun q4 => ?_, fun q4 => ?_⟩
          · refine ⟨fun q5 => ?_, fun q5 => ?_⟩
            · have e : g_X5_fail (Int32.ofInt 1) (S 66 4) S = F_readMonthF φG a S := by rw [F_readMonthF, if_pos q1, if_pos q2, if_pos q3, if_pos q4, if_pos q5]
              exact e.symm
            · have e : g_X5_repeat (S 66 3) (Int32.ofInt 1) (S 66 4) (g_X5_fail (Int32.ofInt 1) (S 66 4) S) = F_readMonthF φG a S := by rw [F_readMonthF, if_pos q1, if_pos q2, if_pos q3, if_pos q4, if_neg q5]
              exact e.symm
          · refine ⟨fun q6 => ?_, fun q6 => ?_⟩
            · refine ⟨fun q7 => ?_, fun q7 => ?_⟩
              · have e : g_X5_fail (Int32.ofInt 1) (S 66 4) S = F_readMonthF φG a S := by rw [F_readMonthF, if_pos q1, if_pos q2, if_pos q3, if_neg q4, if_pos q6, if_pos q7]
                exact e.symm
              · have e : g_X5_repeat (S 66 3) (Int32.ofInt 1) (S 66 4) (g_X5_fail (Int32.ofInt 1) (S 66 4) S) = F_readMonthF φG a S := by rw [F_readMonthF, if_pos q1, if_pos q2, if_pos q3, if_neg q4, if_pos q6, if_neg q7]
                exact e.symm
            · refine ⟨fun q8 => ?_, fun q8 => ?_⟩
              · have e : g_X5_writeMonth ((f_X5_here S) - (Int32.ofInt 65)) S = F_readMonthF φG a S := by rw [F_readMonthF, if_pos q1, if_pos q2, if_pos q3, if_neg q4, if_neg q6, if_pos q8]
                exact e.symm
              · have e : g_X5_repeat (S 66 3) (Int32.ofInt 1) (S 66 4) (g_X5_writeMonth ((f_X5_here S) - (Int32.ofInt 65)) S) = F_readMonthF φG a S := by rw [F_readMonthF, if_pos q1, if_pos q2, if_pos q3, if_neg q4, if_neg q6, if_neg q8]
                exact e.symm
        · refine ⟨fun q9 => ?_, fun q9 => ?_⟩
          · have e : g_X5_writeMonth (Int32.ofInt (-2)) S = F_readMonthF φG a S := by rw [F_readMonthF, if_pos q1, if_pos q2, if_neg q3, if_pos q9]
            exact e.symm
          · have e : g_X5_repeat (S 66 3) (Int32.ofInt 1) (S 66 4) (g_X5_writeMonth (Int32.ofInt (-2)) S) = F_readMonthF φG a S := by rw [F_readMonthF, if_pos q1, if_pos q2, if_neg q3, if_neg q9]
            exact e.symm
      · refine ⟨hs, ?_⟩
        refine ⟨fun q10 => ?_, fun q10 => ?_⟩
        · have e : g_readGroupF φG a S = F_readMonthF φG a S := by rw [F_readMonthF, if_pos q1, if_neg q2, if_pos q10]
          exact e.symm
        · have e : g_X5_repeat (S 66 3) (Int32.ofInt 1) (S 66 4) (g_readGroupF φG a S) = F_readMonthF φG a S := by rw [F_readMonthF, if_pos q1, if_neg q2, if_neg q10]
          exact e.symm
    · refine ⟨fun q11 => ?_, fun q11 => ?_⟩
      · refine ⟨fun q12 => ?_, fun q12 => ?_⟩
        · refine ⟨fun q13 => ?_, fun q13 => ?_⟩
          · refine ⟨fun q14 => ?_, fun q14 => ?_⟩
            · refine ⟨fun q15 => ?_, fun q15 => ?_⟩
              · have e : g_X5_fail (Int32.ofInt 1) (S 66 4) S = F_readMonthF φG a S := by rw [F_readMonthF, if_neg q1, if_pos q11, if_pos q12, if_pos q13, if_pos q14, if_pos q15]
                exact e.symm
              · have e : g_X5_repeat (S 66 3) (Int32.ofInt 1) (S 66 4) (g_X5_fail (Int32.ofInt 1) (S 66 4) S) = F_readMonthF φG a S := by rw [F_readMonthF, if_neg q1, if_pos q11, if_pos q12, if_pos q13, if_pos q14, if_neg q15]
                exact e.symm
            · refine ⟨fun q16 => ?_, fun q16 => ?_⟩
              · refine ⟨fun q17 => ?_, fun q17 => ?_⟩
                · have e : g_X5_fail (Int32.ofInt 1) (S 66 4) S = F_readMonthF φG a S := by rw [F_readMonthF, if_neg q1, if_pos q11, if_pos q12, if_pos q13, if_neg q14, if_pos q16, if_pos q17]
                  exact e.symm
                · have e : g_X5_repeat (S 66 3) (Int32.ofInt 1) (S 66 4) (g_X5_fail (Int32.ofInt 1) (S 66 4) S) = F_readMonthF φG a S := by rw [F_readMonthF, if_neg q1, if_pos q11, if_pos q12, if_pos q13, if_neg q14, if_pos q16, if_neg q17]
                  exact e.symm
              · refine ⟨fun q18 => ?_, fun q18 => ?_⟩
                · have e : g_X5_writeMonth ((f_X5_here S) - (Int32.ofInt 65)) S = F_readMonthF φG a S := by rw [F_readMonthF, if_neg q1, if_pos q11, if_pos q12, if_pos q13, if_neg q14, if_neg q16, if_pos q18]
                  exact e.symm
                · have e : g_X5_repeat (S 66 3) (Int32.ofInt 1) (S 66 4) (g_X5_writeMonth ((f_X5_here S) - (Int32.ofInt 65)) S) = F_readMonthF φG a S := by rw [F_readMonthF, if_neg q1, if_pos q11, if_pos q12, if_pos q13, if_neg q14, if_neg q16, if_neg q18]
                  exact e.symm
          · refine ⟨fun q19 => ?_, fun q19 => ?_⟩
            · have e : g_X5_writeMonth (Int32.ofInt (-2)) S = F_readMonthF φG a S := by rw [F_readMonthF, if_neg q1, if_pos q11, if_pos q12, if_neg q13, if_pos q19]
              exact e.symm
            · have e : g_X5_repeat (S 66 3) (Int32.ofInt 1) (S 66 4) (g_X5_writeMonth (Int32.ofInt (-2)) S) = F_readMonthF φG a S := by rw [F_readMonthF, if_neg q1, if_pos q11, if_pos q12, if_neg q13, if_neg q19]
              exact e.symm
        · refine ⟨hs, ?_⟩
          refine ⟨fun q20 => ?_, fun q20 => ?_⟩
          · have e : g_readGroupF φG a S = F_readMonthF φG a S := by rw [F_readMonthF, if_neg q1, if_pos q11, if_neg q12, if_pos q20]
            exact e.symm
          · have e : g_X5_repeat (S 66 3) (Int32.ofInt 1) (S 66 4) (g_readGroupF φG a S) = F_readMonthF φG a S := by rw [F_readMonthF, if_neg q1, if_pos q11, if_neg q12, if_neg q20]
            exact e.symm
      · refine ⟨fun q21 => ?_, fun q21 => ?_⟩
        · refine ⟨fun q22 => ?_, fun q22 => ?_⟩
          · refine ⟨fun q23 => ?_, fun q23 => ?_⟩
            · refine ⟨fun q24 => ?_, fun q24 => ?_⟩
              · have e : g_X5_fail (Int32.ofInt 1) ((S 66 4) + (Int32.ofInt 1)) (z_s S 66 4 ((S 66 4) + (Int32.ofInt 1))) = F_readMonthF φG a S := by rw [F_readMonthF, if_neg q1, if_neg q11, if_pos q21, if_pos q22, if_pos q23, if_pos q24]
                exact e.symm
              · have e : g_X5_repeat (S 66 3) ((f_X5_here S) - (Int32.ofInt 48)) (S 66 4) (g_X5_fail (Int32.ofInt 1) ((S 66 4) + (Int32.ofInt 1)) (z_s S 66 4 ((S 66 4) + (Int32.ofInt 1)))) = F_readMonthF φG a S := by rw [F_readMonthF, if_neg q1, if_neg q11, if_pos q21, if_pos q22, if_pos q23, if_neg q24]
                exact e.symm
            · refine ⟨fun q25 => ?_, fun q25 => ?_⟩
              · refine ⟨fun q26 => ?_, fun q26 => ?_⟩
                · have e : g_X5_fail (Int32.ofInt 1) ((S 66 4) + (Int32.ofInt 1)) (z_s S 66 4 ((S 66 4) + (Int32.ofInt 1))) = F_readMonthF φG a S := by rw [F_readMonthF, if_neg q1, if_neg q11, if_pos q21, if_pos q22, if_neg q23, if_pos q25, if_pos q26]
                  exact e.symm
                · have e : g_X5_repeat (S 66 3) ((f_X5_here S) - (Int32.ofInt 48)) (S 66 4) (g_X5_fail (Int32.ofInt 1) ((S 66 4) + (Int32.ofInt 1)) (z_s S 66 4 ((S 66 4) + (Int32.ofInt 1)))) = F_readMonthF φG a S := by rw [F_readMonthF, if_neg q1, if_neg q11, if_pos q21, if_pos q22, if_neg q23, if_pos q25, if_neg q26]
                  exact e.symm
              · refine ⟨fun q27 => ?_, fun q27 => ?_⟩
                · have e : g_X5_writeMonth ((f_X5_here (z_s S 66 4 ((S 66 4) + (Int32.ofInt 1)))) - (Int32.ofInt 65)) (z_s S 66 4 ((S 66 4) + (Int32.ofInt 1))) = F_readMonthF φG a S := by rw [F_readMonthF, if_neg q1, if_neg q11, if_pos q21, if_pos q22, if_neg q23, if_neg q25, if_pos q27]
                  exact e.symm
                · have e : g_X5_repeat (S 66 3) ((f_X5_here S) - (Int32.ofInt 48)) (S 66 4) (g_X5_writeMonth ((f_X5_here (z_s S 66 4 ((S 66 4) + (Int32.ofInt 1)))) - (Int32.ofInt 65)) (z_s S 66 4 ((S 66 4) + (Int32.ofInt 1)))) = F_readMonthF φG a S := by rw [F_readMonthF, if_neg q1, if_neg q11, if_pos q21, if_pos q22, if_neg q23, if_neg q25, if_neg q27]
                  exact e.symm
          · refine ⟨fun q28 => ?_, fun q28 => ?_⟩
            · have e : g_X5_writeMonth (Int32.ofInt (-2)) (z_s S 66 4 ((S 66 4) + (Int32.ofInt 1))) = F_readMonthF φG a S := by rw [F_readMonthF, if_neg q1, if_neg q11, if_pos q21, if_neg q22, if_pos q28]
              exact e.symm
            · have e : g_X5_repeat (S 66 3) ((f_X5_here S) - (Int32.ofInt 48)) (S 66 4) (g_X5_writeMonth (Int32.ofInt (-2)) (z_s S 66 4 ((S 66 4) + (Int32.ofInt 1)))) = F_readMonthF φG a S := by rw [F_readMonthF, if_neg q1, if_neg q11, if_pos q21, if_neg q22, if_neg q28]
              exact e.symm
        · refine ⟨hs, ?_⟩
          refine ⟨fun q29 => ?_, fun q29 => ?_⟩
          · have e : g_readGroupF φG a (z_s S 66 4 ((S 66 4) + (Int32.ofInt 1))) = F_readMonthF φG a S := by rw [F_readMonthF, if_neg q1, if_neg q11, if_neg q21, if_pos q29]
            exact e.symm
          · have e : g_X5_repeat (S 66 3) ((f_X5_here S) - (Int32.ofInt 48)) (S 66 4) (g_readGroupF φG a (z_s S 66 4 ((S 66 4) + (Int32.ofInt 1)))) = F_readMonthF φG a S := by rw [F_readMonthF, if_neg q1, if_neg q11, if_neg q21, if_neg q29]
            exact e.symm
noncomputable def D_readMonthsF_2 (pr : Int32 → Prop) (φG : Int32 → v_Sf → v_Sf) (H2 : Int32 → Int32 → v_Sf → Prop) (K : v_Sf → Prop) (x1 : Int32) (x2 : Int32) (S : v_Sf) : Prop := (((Int32.ofInt 60) ≤ x2 → K S) ∧ (¬ ((Int32.ofInt 60) ≤ x2) → ((x1 < (Int32.ofInt 2) → pr (x1 + (Int32.ofInt 1))) ∧ ((((g_readMonthF φG x1 S) 66 5) ≤ ((g_readMonthF φG x1 S) 66 4) → K (g_readMonthF φG x1 S)) ∧ (¬ (((g_readMonthF φG x1 S) 66 5) ≤ ((g_readMonthF φG x1 S) 66 4)) → (((¬ (f_X5_here (g_readMonthF φG x1 S)) = (Int32.ofInt 41)) → H2 x1 (x2 + (Int32.ofInt 1)) (g_readMonthF φG x1 S)) ∧ (¬ (¬ (f_X5_here (g_readMonthF φG x1 S)) = (Int32.ofInt 41)) → K (g_readMonthF φG x1 S))))))))
noncomputable def D_readMonthsF (pr : Int32 → Prop) (φG : Int32 → v_Sf → v_Sf) (a : Int32) (H2 : Int32 → Int32 → v_Sf → Prop) (K : v_Sf → Prop) (S : v_Sf) : Prop := H2 a (Int32.ofInt 0) S
set_option maxRecDepth 4000 in
theorem hd_readMonthsF (L : Nat) (xs : Nat → Int32) {R : v_Rf} (pr : Int32 → Prop) (φG : Int32 → v_Sf → v_Sf) (hφG : ∀ (n d : Nat) (i : Int32) (S : v_Sf), pr i → u_P L xs n d m_X5_readMonths 0 (lv_args 0 [.ref 67, .int i]) [] S R (z_V R (fun S1 => φG i S = S1))) (a : Int32) (H2 : Int32 → Int32 → v_Sf → Prop) (K : v_Sf → Prop) (k2 : ∀ (x1 : Int32) (x2 : Int32) (S : v_Sf), H2 x1 x2 S → D_readMonthsF_2 pr φG H2 K x1 x2 S) : ∀ n, (∀ (d : Nat) (x1 : Int32) (x2 : Int32) (S : v_Sf), H2 x1 x2 S → u_P L xs n d m_X5_readMonths 2 [(0, .ref 67), (1, .int x1), (2, .int x2)] [] S R (z_V R K)) := by
  intro n
  induction n using Nat.strongRecOn with
  | ind n ih =>
    intro d x1 x2 S hD
    have hD := k2 x1 x2 S hD
    unfold D_readMonthsF_2 at hD
    show u_P L xs n d m_X5_readMonths 2 [(0, .ref 67), (1, .int x1), (2, .int x2)] [] S R _
    refine u_st1 rfl (fun _ => rfl) (fun m hm => ?_)
    refine u_st rfl (fun _ => rfl) ?_
    show u_P L xs m d m_X5_readMonths 5 [(0, .ref 67), (1, .int x1), (2, .int x2)] [.int (Int32.ofInt 60), .int x2] S R _
    refine u_ic_ge rfl (fun h1 => ?_) (fun h1 => ?_)
    · have hD := hD.1 h1
      show u_P L xs m d m_X5_readMonths 40 [(0, .ref 67), (1, .int x1), (2, .int x2)] [] S R _
      exact u_ret rfl rfl ⟨rfl, rfl, hD⟩
    · have hD := hD.2 h1
      show u_P L xs m d m_X5_readMonths 8 [(0, .ref 67), (1, .int x1), (2, .int x2)] [] S R _
      refine u_st rfl (fun _ => rfl) ?_
      refine u_st rfl (fun _ => rfl) ?_
      show u_P L xs m d m_X5_readMonths 10 [(0, .ref 67), (1, .int x1), (2, .int x2)] [.int x1, .ref 67] S R _
      refine u_cv (rest := []) rfl (by decide) mt_X5_readMonth rfl rfl rfl rfl (Nat.le_of_ble_eq_true rfl) (Nat.le_of_ble_eq_true rfl) (Nat.le_of_ble_eq_true rfl) (fun d' => c_readMonthF L xs m d' pr φG hφG x1 hD.1 S) ?_
      rintro _ _ _ ⟨rfl, rfl, rfl⟩
      have hD := hD.2
      show u_P L xs m d m_X5_readMonths 13 [(0, .ref 67), (1, .int x1), (2, .int x2)] [] (g_readMonthF φG x1 S) R _
      refine u_st rfl (fun _ => rfl) ?_
      show u_P L xs m d m_X5_readMonths 14 [(0, .ref 67), (1, .int x1), (2, .int x2)] [.ref 67] (g_readMonthF φG x1 S) R _
      refine u_getE (v := (g_readMonthF φG x1 S) 66 4) rfl rfl rfl rfl ?_
      refine u_st rfl (fun _ => rfl) ?_
      show u_P L xs m d m_X5_readMonths 18 [(0, .ref 67), (1, .int x1), (2, .int x2)] [.ref 67, .int ((g_readMonthF φG x1 S) 66 4)] (g_readMonthF φG x1 S) R _
      refine u_getE (v := (g_readMonthF φG x1 S) 66 5) rfl rfl rfl rfl ?_
      show u_P L xs m d m_X5_readMonths 21 [(0, .ref 67), (1, .int x1), (2, .int x2)] [.int ((g_readMonthF φG x1 S) 66 5), .int ((g_readMonthF φG x1 S) 66 4)] (g_readMonthF φG x1 S) R _
      refine u_ic_ge rfl (fun h2 => ?_) (fun h2 => ?_)
      · have hD := hD.1 h2
        show u_P L xs m d m_X5_readMonths 33 [(0, .ref 67), (1, .int x1), (2, .int x2)] [] (g_readMonthF φG x1 S) R _
        exact u_ret rfl rfl ⟨rfl, rfl, hD⟩
      · have hD := hD.2 h2
        show u_P L xs m d m_X5_readMonths 24 [(0, .ref 67), (1, .int x1), (2, .int x2)] [] (g_readMonthF φG x1 S) R _
        refine u_st rfl (fun _ => rfl) ?_
        show u_P L xs m d m_X5_readMonths 25 [(0, .ref 67), (1, .int x1), (2, .int x2)] [.ref 67] (g_readMonthF φG x1 S) R _
        refine u_cv (rest := []) rfl (by decide) mt_X5_here rfl rfl rfl rfl (Nat.le_of_ble_eq_true rfl) (Nat.le_of_ble_eq_true rfl) (Nat.le_of_ble_eq_true rfl) (fun d' => c_X5_here L xs m d' (g_readMonthF φG x1 S) R) ?_
        rintro _ _ _ ⟨_, rfl, rfl, rfl, rfl⟩
        refine u_st rfl (fun _ => rfl) ?_
        show u_P L xs m d m_X5_readMonths 30 [(0, .ref 67), (1, .int x1), (2, .int x2)] [.int (Int32.ofInt 41), .int (f_X5_here (g_readMonthF φG x1 S))] (g_readMonthF φG x1 S) R _
        refine u_ic_ne rfl (fun h3 => ?_) (fun h3 => ?_)
        · have hD := hD.1 h3
          show u_P L xs m d m_X5_readMonths 34 [(0, .ref 67), (1, .int x1), (2, .int x2)] [] (g_readMonthF φG x1 S) R _
          refine u_st rfl (fun _ => rfl) ?_
          refine u_st rfl (fun _ => rfl) ?_
          refine u_lc (b := [(0, .ref 67), (1, .int x1), (2, .int (x2 + (Int32.ofInt 1)))]) (show ([2, 0, 1] : List Nat).Nodup by decide) (show ([0, 1, 2] : List Nat).Nodup by decide) (fun i => match i with | 0 => rfl | 1 => rfl | 2 => rfl | _ + 3 => rfl) ?_
          exact (ih m hm) d x1 (x2 + (Int32.ofInt 1)) (g_readMonthF φG x1 S) hD
        · have hD := hD.2 h3
          show u_P L xs m d m_X5_readMonths 33 [(0, .ref 67), (1, .int x1), (2, .int x2)] [] (g_readMonthF φG x1 S) R _
          exact u_ret rfl rfl ⟨rfl, rfl, hD⟩
set_option maxRecDepth 4000 in
theorem w_readMonthsF (L : Nat) (xs : Nat → Int32) {R : v_Rf} (pr : Int32 → Prop) (φG : Int32 → v_Sf → v_Sf) (hφG : ∀ (n d : Nat) (i : Int32) (S : v_Sf), pr i → u_P L xs n d m_X5_readMonths 0 (lv_args 0 [.ref 67, .int i]) [] S R (z_V R (fun S1 => φG i S = S1))) (a : Int32) (H2 : Int32 → Int32 → v_Sf → Prop) (K : v_Sf → Prop) (k2 : ∀ (x1 : Int32) (x2 : Int32) (S : v_Sf), H2 x1 x2 S → D_readMonthsF_2 pr φG H2 K x1 x2 S) (n d : Nat) (S : v_Sf) (hD : D_readMonthsF pr φG a H2 K S) : u_P L xs n d m_X5_readMonths 0 (lv_args 0 [.ref 67, .int a]) [] S R (z_V R K) := by
  unfold D_readMonthsF at hD
  show u_P L xs n d m_X5_readMonths 0 [(0, .ref 67), (1, .int a)] [] S R _
  refine u_st rfl (fun _ => rfl) ?_
  refine u_st rfl (fun _ => rfl) ?_
  refine u_lc (b := [(0, .ref 67), (1, .int a), (2, .int (Int32.ofInt 0))]) (show ([2, 0, 1] : List Nat).Nodup by decide) (show ([0, 1, 2] : List Nat).Nodup by decide) (fun i => match i with | 0 => rfl | 1 => rfl | 2 => rfl | _ + 3 => rfl) ?_
  exact (hd_readMonthsF L xs pr φG hφG a H2 K k2 n) d a (Int32.ofInt 0) S hD
noncomputable def r_readMonthsF_2 (φG : Int32 → v_Sf → v_Sf) (x1 : Int32) : Nat → Nat → v_Sf → v_Sf
  | 0, k2, S => S
  | r + 1, k2, S => (if ((g_readMonthF φG x1 S) 66 5) ≤ ((g_readMonthF φG x1 S) 66 4) then g_readMonthF φG x1 S else (if ¬ (f_X5_here (g_readMonthF φG x1 S)) = (Int32.ofInt 41) then r_readMonthsF_2 φG x1 r (k2 + 1) (g_readMonthF φG x1 S) else g_readMonthF φG x1 S))
noncomputable def F_readMonthsF (φG : Int32 → v_Sf → v_Sf) (a : Int32) (S : v_Sf) : v_Sf := r_readMonthsF_2 φG a (60 - 0) 0 S
noncomputable def g_readMonthsF (φG : Int32 → v_Sf → v_Sf) (a : Int32) (S : v_Sf) : v_Sf := F_readMonthsF φG a S
theorem c_readMonthsF (L : Nat) (xs : Nat → Int32) (n d : Nat) {R : v_Rf} (pr : Int32 → Prop) (φG : Int32 → v_Sf → v_Sf) (hφG : ∀ (n d : Nat) (i : Int32) (S : v_Sf), pr i → u_P L xs n d m_X5_readMonths 0 (lv_args 0 [.ref 67, .int i]) [] S R (z_V R (fun S1 => φG i S = S1))) (a : Int32) (hs : a < (Int32.ofInt 2) → pr (a + (Int32.ofInt 1))) (S : v_Sf) : u_P L xs n d m_X5_readMonths 0 (lv_args 0 [.ref 67, .int a]) [] S R (z_V R (fun S1 => g_readMonthsF φG a S = S1)) := by
  refine w_readMonthsF L xs pr φG hφG a (fun y1 y2 T => ∃ (k2 : Nat), k2 ≤ 60 ∧ z_i k2 = y2 ∧ a = y1 ∧ r_readMonthsF_2 φG a (60 - k2) k2 T = F_readMonthsF φG a S) (fun S1 => g_readMonthsF φG a S = S1) ?_ n d S ?_
  · rintro _ _ S1 ⟨k2, hkk, rfl, rfl, e⟩
    unfold D_readMonthsF_2
    rcases Nat.lt_or_ge k2 (60) with hk | hk
    · rw [show 60 - k2 = (60 - (k2 + 1)) + 1 by omega, r_readMonthsF_2] at e
      refine ⟨fun q1 => ?_, fun q1 => ?_⟩
      · exact absurd hk (Nat.not_lt.mpr (z_leB2 (B := 60) q1 (by decide) (by omega)))
      · refine ⟨hs, ?_⟩
        refine ⟨fun q2 => ?_, fun q2 => ?_⟩
        · rw [if_pos q2] at e
          exact e.symm
        · refine ⟨fun q3 => ?_, fun q3 => ?_⟩
          · rw [if_neg q2, if_pos q3] at e
            exact ⟨(k2 + 1), by omega, (z_i1 k2).symm, rfl, e⟩
          · rw [if_neg q2, if_neg q3] at e
            exact e.symm
    · rw [show 60 - k2 = 0 by omega, r_readMonthsF_2] at e
      refine ⟨fun q4 => ?_, fun q4 => ?_⟩
      · exact e.symm
      · exact absurd hk (Nat.not_le.mpr (z_ltB2 (B := 60) q4 (by decide) (by omega)))
  · unfold D_readMonthsF
    have e : r_readMonthsF_2 φG a (60 - 0) 0 S = F_readMonthsF φG a S := by rw [F_readMonthsF]
    exact ⟨0, by omega, rfl, rfl, e⟩
noncomputable def g_rdM : Nat → Int32 → v_Sf → v_Sf
  | 0 => g_readMonthsF (fun _ S => S)
  | f + 1 => g_readMonthsF (g_rdM f)
theorem c_rdMN (L : Nat) (xs : Nat → Int32) (R : v_Rf) : ∀ (f n d : Nat) (a : Int32) (S : v_Sf), 2 ≤ a.toInt + f → u_P L xs n d m_X5_readMonths 0 (lv_args 0 [.ref 67, .int a]) [] S R (z_V R (fun S1 => g_rdM f a S = S1)) := by
  intro f
  induction f with
  | zero =>
    intro n d a S h
    exact c_readMonthsF L xs n d (fun _ => False) (fun _ S => S) (fun _ _ _ _ h => h.elim) a (fun q => by have := z_dp (B := 2) (by decide) q; omega) S
  | succ f ih =>
    intro n d a S h
    exact c_readMonthsF L xs n d (fun i => 2 ≤ i.toInt + f) (g_rdM f) (fun n d a S h => ih n d a S h) a (fun q => by have := z_dp (B := 2) (by decide) q; show 2 ≤ (a + Int32.ofInt 1).toInt + f; omega) S
noncomputable def g_rdM2 (a : Int32) (S : v_Sf) : v_Sf := g_rdM 2 a S
theorem c_rdM2 (L : Nat) (xs : Nat → Int32) (n d : Nat) (a : Int32) (h : 0 ≤ a.toInt) (S : v_Sf) (R : v_Rf) : u_P L xs n d m_X5_readMonths 0 (lv_args 0 [.ref 67, .int a]) [] S R (z_V R (fun S1 => g_rdM2 a S = S1)) := c_rdMN L xs R 2 n d a S (by omega)
noncomputable def f_X5_readTimetable (e : Nat) (a : Int32) (S : v_Sf) : Int32 := (if ((g_rdM2 (Int32.ofInt 0) (g_X5_begin e a S)) 66 5) ≤ ((g_rdM2 (Int32.ofInt 0) (g_X5_begin e a S)) 66 4) then (if ((g_rdM2 (Int32.ofInt 0) (g_X5_begin e a S)) 66 6) = 0 then (g_rdM2 (Int32.ofInt 0) (g_X5_begin e a S)) 66 3 else (g_rdM2 (Int32.ofInt 0) (g_X5_begin e a S)) 66 6) else (if ((g_X5_fail (Int32.ofInt 1) ((g_rdM2 (Int32.ofInt 0) (g_X5_begin e a S)) 66 4) (g_rdM2 (Int32.ofInt 0) (g_X5_begin e a S))) 66 6) = 0 then (g_X5_fail (Int32.ofInt 1) ((g_rdM2 (Int32.ofInt 0) (g_X5_begin e a S)) 66 4) (g_rdM2 (Int32.ofInt 0) (g_X5_begin e a S))) 66 3 else (g_X5_fail (Int32.ofInt 1) ((g_rdM2 (Int32.ofInt 0) (g_X5_begin e a S)) 66 4) (g_rdM2 (Int32.ofInt 0) (g_X5_begin e a S))) 66 6))
noncomputable def g_X5_readTimetable (e : Nat) (a : Int32) (S : v_Sf) : v_Sf := (if ((g_rdM2 (Int32.ofInt 0) (g_X5_begin e a S)) 66 5) ≤ ((g_rdM2 (Int32.ofInt 0) (g_X5_begin e a S)) 66 4) then g_rdM2 (Int32.ofInt 0) (g_X5_begin e a S) else g_X5_fail (Int32.ofInt 1) ((g_rdM2 (Int32.ofInt 0) (g_X5_begin e a S)) 66 4) (g_rdM2 (Int32.ofInt 0) (g_X5_begin e a S)))
set_option maxRecDepth 4000 in
theorem c_X5_readTimetable (L : Nat) (xs : Nat → Int32) (n d : Nat) {R : v_Rf} {e : Nat} (hE : R 66 1 = some (e + 1)) (he : z_cd e) (a : Int32) (S : v_Sf) : u_P L xs n d m_X5_readTimetable 0 (lv_args 0 [.ref 67, .int a]) [] S R (z_Q R (fun v S1 => f_X5_readTimetable e a S = v ∧ g_X5_readTimetable e a S = S1)) := by
  show u_P L xs n d m_X5_readTimetable 0 [(0, .ref 67), (1, .int a)] [] S R _
  refine u_st rfl (fun _ => rfl) ?_
  refine u_st rfl (fun _ => rfl) ?_
  show u_P L xs n d m_X5_readTimetable 2 [(0, .ref 67), (1, .int a)] [.int a, .ref 67] S R _
  refine u_cv (rest := []) rfl (by decide) mt_X5_begin rfl rfl rfl rfl (Nat.le_of_ble_eq_true rfl) (Nat.le_of_ble_eq_true rfl) (Nat.le_of_ble_eq_true rfl) (fun d' => c_X5_begin L xs n d' hE he a S) ?_
  rintro _ _ _ ⟨rfl, rfl, rfl⟩
  refine u_st rfl (fun _ => rfl) ?_
  refine u_st rfl (fun _ => rfl) ?_
  show u_P L xs n d m_X5_readTimetable 7 [(0, .ref 67), (1, .int a)] [.int (Int32.ofInt 0), .ref 67] (g_X5_begin e a S) R _
  refine u_cv (rest := []) rfl (by decide) mt_X5_readMonths rfl rfl rfl rfl (Nat.le_of_ble_eq_true rfl) (Nat.le_of_ble_eq_true rfl) (Nat.le_of_ble_eq_true rfl) (fun d' => c_rdM2 L xs n d' (Int32.ofInt 0) (by decide) (g_X5_begin e a S) R) ?_
  rintro _ _ _ ⟨rfl, rfl, rfl⟩
  refine u_st rfl (fun _ => rfl) ?_
  show u_P L xs n d m_X5_readTimetable 11 [(0, .ref 67), (1, .int a)] [.ref 67] (g_rdM2 (Int32.ofInt 0) (g_X5_begin e a S)) R _
  refine u_getE (v := (g_rdM2 (Int32.ofInt 0) (g_X5_begin e a S)) 66 4) rfl rfl rfl rfl ?_
  refine u_st rfl (fun _ => rfl) ?_
  show u_P L xs n d m_X5_readTimetable 15 [(0, .ref 67), (1, .int a)] [.ref 67, .int ((g_rdM2 (Int32.ofInt 0) (g_X5_begin e a S)) 66 4)] (g_rdM2 (Int32.ofInt 0) (g_X5_begin e a S)) R _
  refine u_getE (v := (g_rdM2 (Int32.ofInt 0) (g_X5_begin e a S)) 66 5) rfl rfl rfl rfl ?_
  show u_P L xs n d m_X5_readTimetable 18 [(0, .ref 67), (1, .int a)] [.int ((g_rdM2 (Int32.ofInt 0) (g_X5_begin e a S)) 66 5), .int ((g_rdM2 (Int32.ofInt 0) (g_X5_begin e a S)) 66 4)] (g_rdM2 (Int32.ofInt 0) (g_X5_begin e a S)) R _
  refine u_ic_ge rfl (fun h1 => ?_) (fun h1 => ?_)
  · show u_P L xs n d m_X5_readTimetable 30 [(0, .ref 67), (1, .int a)] [] (g_rdM2 (Int32.ofInt 0) (g_X5_begin e a S)) R _
    refine u_st rfl (fun _ => rfl) ?_
    show u_P L xs n d m_X5_readTimetable 31 [(0, .ref 67), (1, .int a)] [.ref 67] (g_rdM2 (Int32.ofInt 0) (g_X5_begin e a S)) R _
    refine u_getE (v := (g_rdM2 (Int32.ofInt 0) (g_X5_begin e a S)) 66 6) rfl rfl rfl rfl ?_
    show u_P L xs n d m_X5_readTimetable 34 [(0, .ref 67), (1, .int a)] [.int ((g_rdM2 (Int32.ofInt 0) (g_X5_begin e a S)) 66 6)] (g_rdM2 (Int32.ofInt 0) (g_X5_begin e a S)) R _
    refine u_if_eq rfl (fun h2 => ?_) (fun h2 => ?_)
    · show u_P L xs n d m_X5_readTimetable 44 [(0, .ref 67), (1, .int a)] [] (g_rdM2 (Int32.ofInt 0) (g_X5_begin e a S)) R _
      refine u_st rfl (fun _ => rfl) ?_
      show u_P L xs n d m_X5_readTimetable 45 [(0, .ref 67), (1, .int a)] [.ref 67] (g_rdM2 (Int32.ofInt 0) (g_X5_begin e a S)) R _
      refine u_getE (v := (g_rdM2 (Int32.ofInt 0) (g_X5_begin e a S)) 66 3) rfl rfl rfl rfl ?_
      show u_P L xs n d m_X5_readTimetable 48 [(0, .ref 67), (1, .int a)] [.int ((g_rdM2 (Int32.ofInt 0) (g_X5_begin e a S)) 66 3)] (g_rdM2 (Int32.ofInt 0) (g_X5_begin e a S)) R _
      exact u_ret rfl rfl ⟨_, rfl, rfl, by rw [f_X5_readTimetable, if_pos h1, if_pos h2], by rw [g_X5_readTimetable, if_pos h1]⟩
    · show u_P L xs n d m_X5_readTimetable 37 [(0, .ref 67), (1, .int a)] [] (g_rdM2 (Int32.ofInt 0) (g_X5_begin e a S)) R _
      refine u_st rfl (fun _ => rfl) ?_
      show u_P L xs n d m_X5_readTimetable 38 [(0, .ref 67), (1, .int a)] [.ref 67] (g_rdM2 (Int32.ofInt 0) (g_X5_begin e a S)) R _
      refine u_getE (v := (g_rdM2 (Int32.ofInt 0) (g_X5_begin e a S)) 66 6) rfl rfl rfl rfl ?_
      refine u_st rfl (fun _ => rfl) ?_
      show u_P L xs n d m_X5_readTimetable 48 [(0, .ref 67), (1, .int a)] [.int ((g_rdM2 (Int32.ofInt 0) (g_X5_begin e a S)) 66 6)] (g_rdM2 (Int32.ofInt 0) (g_X5_begin e a S)) R _
      exact u_ret rfl rfl ⟨_, rfl, rfl, by rw [f_X5_readTimetable, if_pos h1, if_neg h2], by rw [g_X5_readTimetable, if_pos h1]⟩
  · show u_P L xs n d m_X5_readTimetable 21 [(0, .ref 67), (1, .int a)] [] (g_rdM2 (Int32.ofInt 0) (g_X5_begin e a S)) R _
    refine u_st rfl (fun _ => rfl) ?_
    refine u_st rfl (fun _ => rfl) ?_
    refine u_st rfl (fun _ => rfl) ?_
    show u_P L xs n d m_X5_readTimetable 24 [(0, .ref 67), (1, .int a)] [.ref 67, .int (Int32.ofInt 1), .ref 67] (g_rdM2 (Int32.ofInt 0) (g_X5_begin e a S)) R _
    refine u_getE (v := (g_rdM2 (Int32.ofInt 0) (g_X5_begin e a S)) 66 4) rfl rfl rfl rfl ?_
    show u_P L xs n d m_X5_readTimetable 27 [(0, .ref 67), (1, .int a)] [.int ((g_rdM2 (Int32.ofInt 0) (g_X5_begin e a S)) 66 4), .int (Int32.ofInt 1), .ref 67] (g_rdM2 (Int32.ofInt 0) (g_X5_begin e a S)) R _
    refine u_cv (rest := []) rfl (by decide) mt_X5_fail rfl rfl rfl rfl (Nat.le_of_ble_eq_true rfl) (Nat.le_of_ble_eq_true rfl) (Nat.le_of_ble_eq_true rfl) (fun d' => c_X5_fail L xs n d' (Int32.ofInt 1) ((g_rdM2 (Int32.ofInt 0) (g_X5_begin e a S)) 66 4) (g_rdM2 (Int32.ofInt 0) (g_X5_begin e a S)) R) ?_
    rintro _ _ _ ⟨rfl, rfl, rfl⟩
    refine u_st rfl (fun _ => rfl) ?_
    show u_P L xs n d m_X5_readTimetable 31 [(0, .ref 67), (1, .int a)] [.ref 67] (g_X5_fail (Int32.ofInt 1) ((g_rdM2 (Int32.ofInt 0) (g_X5_begin e a S)) 66 4) (g_rdM2 (Int32.ofInt 0) (g_X5_begin e a S))) R _
    refine u_getE (v := (g_X5_fail (Int32.ofInt 1) ((g_rdM2 (Int32.ofInt 0) (g_X5_begin e a S)) 66 4) (g_rdM2 (Int32.ofInt 0) (g_X5_begin e a S))) 66 6) rfl rfl rfl rfl ?_
    show u_P L xs n d m_X5_readTimetable 34 [(0, .ref 67), (1, .int a)] [.int ((g_X5_fail (Int32.ofInt 1) ((g_rdM2 (Int32.ofInt 0) (g_X5_begin e a S)) 66 4) (g_rdM2 (Int32.ofInt 0) (g_X5_begin e a S))) 66 6)] (g_X5_fail (Int32.ofInt 1) ((g_rdM2 (Int32.ofInt 0) (g_X5_begin e a S)) 66 4) (g_rdM2 (Int32.ofInt 0) (g_X5_begin e a S))) R _
    refine u_if_eq rfl (fun h3 => ?_) (fun h3 => ?_)
    · show u_P L xs n d m_X5_readTimetable 44 [(0, .ref 67), (1, .int a)] [] (g_X5_fail (Int32.ofInt 1) ((g_rdM2 (Int32.ofInt 0) (g_X5_begin e a S)) 66 4) (g_rdM2 (Int32.ofInt 0) (g_X5_begin e a S))) R _
      refine u_st rfl (fun _ => rfl) ?_
      show u_P L xs n d m_X5_readTimetable 45 [(0, .ref 67), (1, .int a)] [.ref 67] (g_X5_fail (Int32.ofInt 1) ((g_rdM2 (Int32.ofInt 0) (g_X5_begin e a S)) 66 4) (g_rdM2 (Int32.ofInt 0) (g_X5_begin e a S))) R _
      refine u_getE (v := (g_X5_fail (Int32.ofInt 1) ((g_rdM2 (Int32.ofInt 0) (g_X5_begin e a S)) 66 4) (g_rdM2 (Int32.ofInt 0) (g_X5_begin e a S))) 66 3) rfl rfl rfl rfl ?_
      show u_P L xs n d m_X5_readTimetable 48 [(0, .ref 67), (1, .int a)] [.int ((g_X5_fail (Int32.ofInt 1) ((g_rdM2 (Int32.ofInt 0) (g_X5_begin e a S)) 66 4) (g_rdM2 (Int32.ofInt 0) (g_X5_begin e a S))) 66 3)] (g_X5_fail (Int32.ofInt 1) ((g_rdM2 (Int32.ofInt 0) (g_X5_begin e a S)) 66 4) (g_rdM2 (Int32.ofInt 0) (g_X5_begin e a S))) R _
      exact u_ret rfl rfl ⟨_, rfl, rfl, by rw [f_X5_readTimetable, if_neg h1, if_pos h3], by rw [g_X5_readTimetable, if_neg h1]⟩
    · show u_P L xs n d m_X5_readTimetable 37 [(0, .ref 67), (1, .int a)] [] (g_X5_fail (Int32.ofInt 1) ((g_rdM2 (Int32.ofInt 0) (g_X5_begin e a S)) 66 4) (g_rdM2 (Int32.ofInt 0) (g_X5_begin e a S))) R _
      refine u_st rfl (fun _ => rfl) ?_
      show u_P L xs n d m_X5_readTimetable 38 [(0, .ref 67), (1, .int a)] [.ref 67] (g_X5_fail (Int32.ofInt 1) ((g_rdM2 (Int32.ofInt 0) (g_X5_begin e a S)) 66 4) (g_rdM2 (Int32.ofInt 0) (g_X5_begin e a S))) R _
      refine u_getE (v := (g_X5_fail (Int32.ofInt 1) ((g_rdM2 (Int32.ofInt 0) (g_X5_begin e a S)) 66 4) (g_rdM2 (Int32.ofInt 0) (g_X5_begin e a S))) 66 6) rfl rfl rfl rfl ?_
      refine u_st rfl (fun _ => rfl) ?_
      show u_P L xs n d m_X5_readTimetable 48 [(0, .ref 67), (1, .int a)] [.int ((g_X5_fail (Int32.ofInt 1) ((g_rdM2 (Int32.ofInt 0) (g_X5_begin e a S)) 66 4) (g_rdM2 (Int32.ofInt 0) (g_X5_begin e a S))) 66 6)] (g_X5_fail (Int32.ofInt 1) ((g_rdM2 (Int32.ofInt 0) (g_X5_begin e a S)) 66 4) (g_rdM2 (Int32.ofInt 0) (g_X5_begin e a S))) R _
      exact u_ret rfl rfl ⟨_, rfl, rfl, by rw [f_X5_readTimetable, if_neg h1, if_neg h3], by rw [g_X5_readTimetable, if_neg h1]⟩
noncomputable abbrev m_X9_learnFrom : g_M := (g_cn 9, yX9_learnFrom, cX9_learnFrom, 3, none, g_look2 ttX9_learnFrom)
set_option maxRecDepth 20000 in
theorem mt_X9_learnFrom : g_mt 100 = some m_X9_learnFrom := rfl
noncomputable def g_X9_learnFrom (q : Nat) (a : Int32) (S : v_Sf) : v_Sf := z_cp (z_s S q 1 (z_max (Int32.ofInt 0) (z_min (z_min a (Int32.ofNat 49)) (Int32.ofNat 48)))) 74 (q + 1) (z_max (Int32.ofInt 0) (z_min (z_min a (Int32.ofNat 49)) (Int32.ofNat 48)))
set_option maxRecDepth 4000 in
theorem c_X9_learnFrom (L : Nat) (xs : Nat → Int32) (n d : Nat) (q : Nat) (hq : z_wd q) (a : Int32) (S : v_Sf) (R : v_Rf) : u_P L xs n d m_X9_learnFrom 0 (lv_args 0 [.ref (q + 1), .ref 75, .int a]) [] S R (z_V R (fun S1 => g_X9_learnFrom q a S = S1)) := by
  show u_P L xs n d m_X9_learnFrom 0 [(0, .ref (q + 1)), (1, .ref 75), (2, .int a)] [] S R _
  refine u_st rfl (fun _ => rfl) ?_
  refine u_st rfl (fun _ => rfl) ?_
  refine u_st rfl (fun _ => rfl) ?_
  refine u_st rfl (fun _ => rfl) ?_
  show u_P L xs n d m_X9_learnFrom 4 [(0, .ref (q + 1)), (1, .ref 75), (2, .int a)] [.ref 75, .int a, .int (Int32.ofInt 0), .ref (q + 1)] S R _
  refine u_al rfl rfl rfl ?_
  show u_P L xs n d m_X9_learnFrom 5 [(0, .ref (q + 1)), (1, .ref 75), (2, .int a)] [.int (Int32.ofNat 49), .int a, .int (Int32.ofInt 0), .ref (q + 1)] S R _
  refine u_min rfl ?_
  refine u_st rfl (fun _ => rfl) ?_
  show u_P L xs n d m_X9_learnFrom 9 [(0, .ref (q + 1)), (1, .ref 75), (2, .int a)] [.ref (q + 1), .int (z_min a (Int32.ofNat 49)), .int (Int32.ofInt 0), .ref (q + 1)] S R _
  refine u_getr rfl (z_wd0 hq) rfl ?_
  show u_P L xs n d m_X9_learnFrom 12 [(0, .ref (q + 1)), (1, .ref 75), (2, .int a)] [.ref (q + 2), .int (z_min a (Int32.ofNat 49)), .int (Int32.ofInt 0), .ref (q + 1)] S R _
  refine u_al rfl (z_wd1 hq) rfl ?_
  show u_P L xs n d m_X9_learnFrom 13 [(0, .ref (q + 1)), (1, .ref 75), (2, .int a)] [.int (Int32.ofNat 48), .int (z_min a (Int32.ofNat 49)), .int (Int32.ofInt 0), .ref (q + 1)] S R _
  refine u_min rfl ?_
  show u_P L xs n d m_X9_learnFrom 16 [(0, .ref (q + 1)), (1, .ref 75), (2, .int a)] [.int (z_min (z_min a (Int32.ofNat 49)) (Int32.ofNat 48)), .int (Int32.ofInt 0), .ref (q + 1)] S R _
  refine u_max rfl ?_
  show u_P L xs n d m_X9_learnFrom 19 [(0, .ref (q + 1)), (1, .ref 75), (2, .int a)] [.int (z_max (Int32.ofInt 0) (z_min (z_min a (Int32.ofNat 49)) (Int32.ofNat 48))), .ref (q + 1)] S R _
  refine u_put rfl (z_wd0 hq) rfl ?_
  refine u_st rfl (fun _ => rfl) ?_
  refine u_st rfl (fun _ => rfl) ?_
  refine u_st rfl (fun _ => rfl) ?_
  show u_P L xs n d m_X9_learnFrom 25 [(0, .ref (q + 1)), (1, .ref 75), (2, .int a)] [.ref (q + 1), .int (Int32.ofInt 0), .ref 75] (z_s S q 1 (z_max (Int32.ofInt 0) (z_min (z_min a (Int32.ofNat 49)) (Int32.ofNat 48)))) R _
  refine u_getr rfl (z_wd0 hq) rfl ?_
  refine u_st rfl (fun _ => rfl) ?_
  refine u_st rfl (fun _ => rfl) ?_
  show u_P L xs n d m_X9_learnFrom 30 [(0, .ref (q + 1)), (1, .ref 75), (2, .int a)] [.ref (q + 1), .int (Int32.ofInt 0), .ref (q + 2), .int (Int32.ofInt 0), .ref 75] (z_s S q 1 (z_max (Int32.ofInt 0) (z_min (z_min a (Int32.ofNat 49)) (Int32.ofNat 48)))) R _
  refine u_getE (v := z_max (Int32.ofInt 0) (z_min (z_min a (Int32.ofNat 49)) (Int32.ofNat 48))) rfl (z_wd0 hq) rfl z_ss ?_
  show u_P L xs n d m_X9_learnFrom 33 [(0, .ref (q + 1)), (1, .ref 75), (2, .int a)] [.int (z_max (Int32.ofInt 0) (z_min (z_min a (Int32.ofNat 49)) (Int32.ofNat 48))), .int (Int32.ofInt 0), .ref (q + 2), .int (Int32.ofInt 0), .ref 75] (z_s S q 1 (z_max (Int32.ofInt 0) (z_min (z_min a (Int32.ofNat 49)) (Int32.ofNat 48)))) R _
  refine u_cp rfl rfl (z_wd1 hq) (fun b11 b12 b13 => ?_)
  show u_P L xs n d m_X9_learnFrom 36 [(0, .ref (q + 1)), (1, .ref 75), (2, .int a)] [] (z_cp (z_s S q 1 (z_max (Int32.ofInt 0) (z_min (z_min a (Int32.ofNat 49)) (Int32.ofNat 48)))) 74 (q + 1) (z_max (Int32.ofInt 0) (z_min (z_min a (Int32.ofNat 49)) (Int32.ofNat 48)))) R _
  exact u_ret rfl rfl ⟨rfl, rfl, rfl⟩
noncomputable abbrev m_X11_timetable : g_M := (g_cn 11, yX11_timetable, cX11_timetable, 5, (some .int), g_look2 ttX11_timetable)
set_option maxRecDepth 20000 in
theorem mt_X11_timetable : g_mt 125 = some m_X11_timetable := rfl
noncomputable def f_X11_timetable (e : Nat) (w : Int32) (a : Int32) (S : v_Sf) : Int32 := (if 0 ≤ w.toInt ∧ w.toInt < ((6 : Nat) : Int) then (if a < (Int32.ofInt 1) then Int32.ofInt (-1) else (if (Int32.ofInt 60) < a then Int32.ofInt (-1) else (if a ≤ (S 45 1) then (if (f_X5_readTimetable e a S) ≤ 0 then f_X5_readTimetable e a S else f_X5_readTimetable e a S) else Int32.ofInt (-1)))) else Int32.ofInt (-1))
noncomputable def g_X11_timetable (e : Nat) (w : Int32) (a : Int32) (S : v_Sf) : v_Sf := (if 0 ≤ w.toInt ∧ w.toInt < ((6 : Nat) : Int) then (if a < (Int32.ofInt 1) then S else (if (Int32.ofInt 60) < a then S else (if a ≤ (S 45 1) then (if (f_X5_readTimetable e a S) ≤ 0 then g_X8_empty (g_X5_readTimetable e a S) else z_s (g_X9_learnFrom ((33 + 2 * w.toInt.toNat)) (f_X5_readTimetable e a S) (g_X8_empty (g_X5_readTimetable e a S))) 10 w.toInt.toNat (Int32.ofInt 0)) else S))) else S)
set_option maxRecDepth 4000 in
theorem c_X11_timetable (L : Nat) (xs : Nat → Int32) (n d : Nat) {R : v_Rf} (hW : z_W R) {e : Nat} (hE : R 66 1 = some (e + 1)) (he : z_cd e) (w : Int32) (a : Int32) (S : v_Sf) : u_P L xs n d m_X11_timetable 0 (lv_args 0 [.ref 1, .int w, .int a]) [] S R (z_Q R (fun v S1 => f_X11_timetable e w a S = v ∧ g_X11_timetable e w a S = S1)) := by
  show u_P L xs n d m_X11_timetable 0 [(0, .ref 1), (1, .int w), (2, .int a)] [] S R _
  refine u_st rfl (fun _ => rfl) ?_
  refine u_st rfl (fun _ => rfl) ?_
  show u_P L xs n d m_X11_timetable 2 [(0, .ref 1), (1, .int w), (2, .int a)] [.int w, .ref 1] S R _
  refine u_cv (rest := []) rfl (by decide) mt_X11_wardAt v_tyC rfl rfl rfl (Nat.le_of_ble_eq_true rfl) (Nat.le_of_ble_eq_true rfl) (Nat.le_of_ble_eq_true rfl) (fun d' => c_X11_wardAt L xs n d' hW w S) ?_
  rintro _ _ _ ⟨rfl, rfl, ⟨h1, rfl⟩ | ⟨h1, rfl⟩⟩
  · show u_P L xs n d m_X11_timetable 5 [(0, .ref 1), (1, .int w), (2, .int a)] [.ref (((33 + 2 * w.toInt.toNat)) + 1)] S R _
    refine u_st rfl (fun _ => rfl) ?_
    refine u_st rfl (fun _ => rfl) ?_
    refine u_st rfl (fun _ => rfl) ?_
    refine u_st rfl (fun _ => rfl) ?_
    refine u_st rfl (fun _ => rfl) ?_
    show u_P L xs n d m_X11_timetable 12 [(3, .ref (((33 + 2 * w.toInt.toNat)) + 1)), (0, .ref 1), (1, .int w), (2, .int a)] [.int (Int32.ofInt 1), .int a] S R _
    refine u_ic_lt rfl (fun h2 => ?_) (fun h2 => ?_)
    · show u_P L xs n d m_X11_timetable 32 [(3, .ref (((33 + 2 * w.toInt.toNat)) + 1)), (0, .ref 1), (1, .int w), (2, .int a)] [] S R _
      refine u_st rfl (fun _ => rfl) ?_
      show u_P L xs n d m_X11_timetable 33 [(3, .ref (((33 + 2 * w.toInt.toNat)) + 1)), (0, .ref 1), (1, .int w), (2, .int a)] [.int (Int32.ofInt (-1))] S R _
      exact u_ret rfl rfl ⟨_, rfl, rfl, by rw [f_X11_timetable, if_pos h1, if_pos h2], by rw [g_X11_timetable, if_pos h1, if_pos h2]⟩
    · show u_P L xs n d m_X11_timetable 15 [(3, .ref (((33 + 2 * w.toInt.toNat)) + 1)), (0, .ref 1), (1, .int w), (2, .int a)] [] S R _
      refine u_st rfl (fun _ => rfl) ?_
      refine u_st rfl (fun _ => rfl) ?_
      show u_P L xs n d m_X11_timetable 18 [(3, .ref (((33 + 2 * w.toInt.toNat)) + 1)), (0, .ref 1), (1, .int w), (2, .int a)] [.int (Int32.ofInt 60), .int a] S R _
      refine u_ic_gt rfl (fun h3 => ?_) (fun h3 => ?_)
      · show u_P L xs n d m_X11_timetable 32 [(3, .ref (((33 + 2 * w.toInt.toNat)) + 1)), (0, .ref 1), (1, .int w), (2, .int a)] [] S R _
        refine u_st rfl (fun _ => rfl) ?_
        show u_P L xs n d m_X11_timetable 33 [(3, .ref (((33 + 2 * w.toInt.toNat)) + 1)), (0, .ref 1), (1, .int w), (2, .int a)] [.int (Int32.ofInt (-1))] S R _
        exact u_ret rfl rfl ⟨_, rfl, rfl, by rw [f_X11_timetable, if_pos h1, if_neg h2, if_pos h3], by rw [g_X11_timetable, if_pos h1, if_neg h2, if_pos h3]⟩
      · show u_P L xs n d m_X11_timetable 21 [(3, .ref (((33 + 2 * w.toInt.toNat)) + 1)), (0, .ref 1), (1, .int w), (2, .int a)] [] S R _
        refine u_st rfl (fun _ => rfl) ?_
        refine u_st rfl (fun _ => rfl) ?_
        show u_P L xs n d m_X11_timetable 23 [(3, .ref (((33 + 2 * w.toInt.toNat)) + 1)), (0, .ref 1), (1, .int w), (2, .int a)] [.ref 1, .int a] S R _
        refine u_getr rfl v_tyC rfl ?_
        show u_P L xs n d m_X11_timetable 26 [(3, .ref (((33 + 2 * w.toInt.toNat)) + 1)), (0, .ref 1), (1, .int w), (2, .int a)] [.ref 46, .int a] S R _
        refine u_getE (v := S 45 1) rfl rfl rfl rfl ?_
        show u_P L xs n d m_X11_timetable 29 [(3, .ref (((33 + 2 * w.toInt.toNat)) + 1)), (0, .ref 1), (1, .int w), (2, .int a)] [.int (S 45 1), .int a] S R _
        refine u_ic_le rfl (fun h4 => ?_) (fun h4 => ?_)
        · show u_P L xs n d m_X11_timetable 34 [(3, .ref (((33 + 2 * w.toInt.toNat)) + 1)), (0, .ref 1), (1, .int w), (2, .int a)] [] S R _
          refine u_st rfl (fun _ => rfl) ?_
          show u_P L xs n d m_X11_timetable 35 [(3, .ref (((33 + 2 * w.toInt.toNat)) + 1)), (0, .ref 1), (1, .int w), (2, .int a)] [.ref 1] S R _
          refine u_getr rfl v_tyC rfl ?_
          refine u_st rfl (fun _ => rfl) ?_
          show u_P L xs n d m_X11_timetable 39 [(3, .ref (((33 + 2 * w.toInt.toNat)) + 1)), (0, .ref 1), (1, .int w), (2, .int a)] [.int a, .ref 67] S R _
          refine u_cv (rest := []) rfl (by decide) mt_X5_readTimetable rfl rfl rfl rfl (Nat.le_of_ble_eq_true rfl) (Nat.le_of_ble_eq_true rfl) (Nat.le_of_ble_eq_true rfl) (fun d' => c_X5_readTimetable L xs n d' hE he a S) ?_
          rintro _ _ _ ⟨_, rfl, rfl, rfl, rfl⟩
          refine u_st rfl (fun _ => rfl) ?_
          refine u_st rfl (fun _ => rfl) ?_
          show u_P L xs n d m_X11_timetable 45 [(4, .int (f_X5_readTimetable e a S)), (3, .ref (((33 + 2 * w.toInt.toNat)) + 1)), (0, .ref 1), (1, .int w), (2, .int a)] [.ref 1] (g_X5_readTimetable e a S) R _
          refine u_getr rfl v_tyC rfl ?_
          show u_P L xs n d m_X11_timetable 48 [(4, .int (f_X5_readTimetable e a S)), (3, .ref (((33 + 2 * w.toInt.toNat)) + 1)), (0, .ref 1), (1, .int w), (2, .int a)] [.ref 46] (g_X5_readTimetable e a S) R _
          refine u_cv (rest := []) rfl (by decide) mt_X8_empty rfl rfl rfl rfl (Nat.le_of_ble_eq_true rfl) (Nat.le_of_ble_eq_true rfl) (Nat.le_of_ble_eq_true rfl) (fun d' => c_X8_empty L xs n d' (g_X5_readTimetable e a S) R) ?_
          rintro _ _ _ ⟨rfl, rfl, rfl⟩
          refine u_st rfl (fun _ => rfl) ?_
          show u_P L xs n d m_X11_timetable 53 [(4, .int (f_X5_readTimetable e a S)), (3, .ref (((33 + 2 * w.toInt.toNat)) + 1)), (0, .ref 1), (1, .int w), (2, .int a)] [.int (f_X5_readTimetable e a S)] (g_X8_empty (g_X5_readTimetable e a S)) R _
          refine u_if_le rfl (fun h5 => ?_) (fun h5 => ?_)
          · show u_P L xs n d m_X11_timetable 79 [(4, .int (f_X5_readTimetable e a S)), (3, .ref (((33 + 2 * w.toInt.toNat)) + 1)), (0, .ref 1), (1, .int w), (2, .int a)] [] (g_X8_empty (g_X5_readTimetable e a S)) R _
            refine u_st rfl (fun _ => rfl) ?_
            show u_P L xs n d m_X11_timetable 81 [(4, .int (f_X5_readTimetable e a S)), (3, .ref (((33 + 2 * w.toInt.toNat)) + 1)), (0, .ref 1), (1, .int w), (2, .int a)] [.int (f_X5_readTimetable e a S)] (g_X8_empty (g_X5_readTimetable e a S)) R _
            exact u_ret rfl rfl ⟨_, rfl, rfl, by rw [f_X11_timetable, if_pos h1, if_neg h2, if_neg h3, if_pos h4, if_pos h5], by rw [g_X11_timetable, if_pos h1, if_neg h2, if_neg h3, if_pos h4, if_pos h5]⟩
          · show u_P L xs n d m_X11_timetable 56 [(4, .int (f_X5_readTimetable e a S)), (3, .ref (((33 + 2 * w.toInt.toNat)) + 1)), (0, .ref 1), (1, .int w), (2, .int a)] [] (g_X8_empty (g_X5_readTimetable e a S)) R _
            refine u_st rfl (fun _ => rfl) ?_
            refine u_st rfl (fun _ => rfl) ?_
            show u_P L xs n d m_X11_timetable 58 [(4, .int (f_X5_readTimetable e a S)), (3, .ref (((33 + 2 * w.toInt.toNat)) + 1)), (0, .ref 1), (1, .int w), (2, .int a)] [.ref 1, .ref (((33 + 2 * w.toInt.toNat)) + 1)] (g_X8_empty (g_X5_readTimetable e a S)) R _
            refine u_getr rfl v_tyC rfl ?_
            show u_P L xs n d m_X11_timetable 61 [(4, .int (f_X5_readTimetable e a S)), (3, .ref (((33 + 2 * w.toInt.toNat)) + 1)), (0, .ref 1), (1, .int w), (2, .int a)] [.ref 67, .ref (((33 + 2 * w.toInt.toNat)) + 1)] (g_X8_empty (g_X5_readTimetable e a S)) R _
            refine u_getr rfl rfl rfl ?_
            refine u_st rfl (fun _ => rfl) ?_
            show u_P L xs n d m_X11_timetable 66 [(4, .int (f_X5_readTimetable e a S)), (3, .ref (((33 + 2 * w.toInt.toNat)) + 1)), (0, .ref 1), (1, .int w), (2, .int a)] [.int (f_X5_readTimetable e a S), .ref 75, .ref (((33 + 2 * w.toInt.toNat)) + 1)] (g_X8_empty (g_X5_readTimetable e a S)) R _
            refine u_cv (rest := []) rfl (by decide) mt_X9_learnFrom (z_wd0 (z_wdi h1.1 h1.2)) rfl rfl rfl (Nat.le_of_ble_eq_true rfl) (Nat.le_of_ble_eq_true rfl) (Nat.le_of_ble_eq_true rfl) (fun d' => c_X9_learnFrom L xs n d' ((33 + 2 * w.toInt.toNat)) (z_wdi h1.1 h1.2) (f_X5_readTimetable e a S) (g_X8_empty (g_X5_readTimetable e a S)) R) ?_
            rintro _ _ _ ⟨rfl, rfl, rfl⟩
            refine u_st rfl (fun _ => rfl) ?_
            show u_P L xs n d m_X11_timetable 70 [(4, .int (f_X5_readTimetable e a S)), (3, .ref (((33 + 2 * w.toInt.toNat)) + 1)), (0, .ref 1), (1, .int w), (2, .int a)] [.ref 1] (g_X9_learnFrom ((33 + 2 * w.toInt.toNat)) (f_X5_readTimetable e a S) (g_X8_empty (g_X5_readTimetable e a S))) R _
            refine u_getr rfl v_tyC rfl ?_
            show u_P L xs n d m_X11_timetable 73 [(4, .int (f_X5_readTimetable e a S)), (3, .ref (((33 + 2 * w.toInt.toNat)) + 1)), (0, .ref 1), (1, .int w), (2, .int a)] [.ref 2] (g_X9_learnFrom ((33 + 2 * w.toInt.toNat)) (f_X5_readTimetable e a S) (g_X8_empty (g_X5_readTimetable e a S))) R _
            refine u_getr rfl rfl rfl ?_
            refine u_st rfl (fun _ => rfl) ?_
            refine u_st rfl (fun _ => rfl) ?_
            show u_P L xs n d m_X11_timetable 78 [(4, .int (f_X5_readTimetable e a S)), (3, .ref (((33 + 2 * w.toInt.toNat)) + 1)), (0, .ref 1), (1, .int w), (2, .int a)] [.int (Int32.ofInt 0), .int w, .ref 11] (g_X9_learnFrom ((33 + 2 * w.toInt.toNat)) (f_X5_readTimetable e a S) (g_X8_empty (g_X5_readTimetable e a S))) R _
            refine u_iast rfl rfl (fun b61 b62 => ?_)
            refine u_st rfl (fun _ => rfl) ?_
            show u_P L xs n d m_X11_timetable 81 [(4, .int (f_X5_readTimetable e a S)), (3, .ref (((33 + 2 * w.toInt.toNat)) + 1)), (0, .ref 1), (1, .int w), (2, .int a)] [.int (f_X5_readTimetable e a S)] (z_s (g_X9_learnFrom ((33 + 2 * w.toInt.toNat)) (f_X5_readTimetable e a S) (g_X8_empty (g_X5_readTimetable e a S))) 10 w.toInt.toNat (Int32.ofInt 0)) R _
            exact u_ret rfl rfl ⟨_, rfl, rfl, by rw [f_X11_timetable, if_pos h1, if_neg h2, if_neg h3, if_pos h4, if_neg h5], by rw [g_X11_timetable, if_pos h1, if_neg h2, if_neg h3, if_pos h4, if_neg h5]⟩
        · show u_P L xs n d m_X11_timetable 32 [(3, .ref (((33 + 2 * w.toInt.toNat)) + 1)), (0, .ref 1), (1, .int w), (2, .int a)] [] S R _
          refine u_st rfl (fun _ => rfl) ?_
          show u_P L xs n d m_X11_timetable 33 [(3, .ref (((33 + 2 * w.toInt.toNat)) + 1)), (0, .ref 1), (1, .int w), (2, .int a)] [.int (Int32.ofInt (-1))] S R _
          exact u_ret rfl rfl ⟨_, rfl, rfl, by rw [f_X11_timetable, if_pos h1, if_neg h2, if_neg h3, if_neg h4], by rw [g_X11_timetable, if_pos h1, if_neg h2, if_neg h3, if_neg h4]⟩
  · show u_P L xs n d m_X11_timetable 5 [(0, .ref 1), (1, .int w), (2, .int a)] [.null] S R _
    refine u_st rfl (fun _ => rfl) ?_
    refine u_st rfl (fun _ => rfl) ?_
    refine u_st rfl (fun _ => rfl) ?_
    refine u_st rfl (fun _ => rfl) ?_
    show u_P L xs n d m_X11_timetable 33 [(3, .null), (0, .ref 1), (1, .int w), (2, .int a)] [.int (Int32.ofInt (-1))] S R _
    exact u_ret rfl rfl ⟨_, rfl, rfl, by rw [f_X11_timetable, if_neg h1], by rw [g_X11_timetable, if_neg h1]⟩
end PrtS42s
section PrtS42t
noncomputable def D_X12_clause_25  (H25 : Int32 → Int32 → v_Sf → Prop) (H37 : Int32 → Int32 → v_Sf → Prop) (H64 : Int32 → Int32 → v_Sf → Prop) (H143 : v_Sf → Prop) (H167 : v_Sf → Prop) (K : v_Sf → Prop) (x1 : Int32) (x2 : Int32) (S : v_Sf) : Prop := H64 x1 x2 (g_X12_wrongs (Int32.ofInt 1) (S 99 3) S)
noncomputable def D_X12_clause_37  (H25 : Int32 → Int32 → v_Sf → Prop) (H37 : Int32 → Int32 → v_Sf → Prop) (H64 : Int32 → Int32 → v_Sf → Prop) (H143 : v_Sf → Prop) (H167 : v_Sf → Prop) (K : v_Sf → Prop) (x1 : Int32) (x2 : Int32) (S : v_Sf) : Prop := ((x1 = 0 → (((¬ (S 99 6) = (Int32.ofInt 16)) → H64 x1 x2 S) ∧ (¬ (¬ (S 99 6) = (Int32.ofInt 16)) → H64 x1 x2 (g_X12_wrongs (Int32.ofInt 4) (S 99 3) S)))) ∧ (¬ (x1 = 0) → (((¬ (S 99 6) = (Int32.ofInt 12)) → H64 x1 x2 S) ∧ (¬ (¬ (S 99 6) = (Int32.ofInt 12)) → H64 x1 x2 (g_X12_wrongs (Int32.ofInt 4) (S 99 3) S)))))
noncomputable def D_X12_clause_64  (H25 : Int32 → Int32 → v_Sf → Prop) (H37 : Int32 → Int32 → v_Sf → Prop) (H64 : Int32 → Int32 → v_Sf → Prop) (H143 : v_Sf → Prop) (H167 : v_Sf → Prop) (K : v_Sf → Prop) (x1 : Int32) (x2 : Int32) (S : v_Sf) : Prop := (((¬ (f_X12_isGood S) = 0) → (0 ≤ (S 99 6).toInt → (S 99 6).toInt < 16 → (0 ≤ (S 99 6).toInt → (S 99 6).toInt < 16 → ((x1 = 0 → ((x2 = (Int32.ofInt 101) → H143 (z_s (z_s (z_s (z_s (z_s S 107 ((S 99 6).toInt.toNat) x2) 108 ((S 99 6).toInt.toNat) (S 99 7)) 99 3 ((S 99 3) + (Int32.ofInt 1))) 99 9 (Int32.ofInt 0)) 99 8 (Int32.ofInt 0))) ∧ (¬ (x2 = (Int32.ofInt 101)) → ((x2 = (Int32.ofInt 120) → H143 (z_s (z_s (z_s (z_s (z_s S 107 ((S 99 6).toInt.toNat) x2) 108 ((S 99 6).toInt.toNat) (S 99 7)) 99 3 ((S 99 3) + (Int32.ofInt 1))) 99 9 (Int32.ofInt 0)) 99 8 (Int32.ofInt 0))) ∧ (¬ (x2 = (Int32.ofInt 120)) → H143 (g_X12_value (z_s (z_s (z_s (z_s (z_s S 107 ((S 99 6).toInt.toNat) x2) 108 ((S 99 6).toInt.toNat) (S 99 7)) 99 3 ((S 99 3) + (Int32.ofInt 1))) 99 9 (Int32.ofInt 0)) 99 8 (Int32.ofInt 0)))))))) ∧ (¬ (x1 = 0) → H143 (z_s (z_s (z_s (z_s (z_s S 107 ((S 99 6).toInt.toNat) x2) 108 ((S 99 6).toInt.toNat) (S 99 7)) 99 3 ((S 99 3) + (Int32.ofInt 0))) 99 9 (Int32.ofInt 0)) 99 8 (Int32.ofInt 0))))))) ∧ (¬ (¬ (f_X12_isGood S) = 0) → K S))
noncomputable def D_X12_clause_143  (H25 : Int32 → Int32 → v_Sf → Prop) (H37 : Int32 → Int32 → v_Sf → Prop) (H64 : Int32 → Int32 → v_Sf → Prop) (H143 : v_Sf → Prop) (H167 : v_Sf → Prop) (K : v_Sf → Prop)  (S : v_Sf) : Prop := (0 ≤ (S 99 6).toInt → (S 99 6).toInt < 16 → (((f_X12_isGood (z_s S 109 ((S 99 6).toInt.toNat) (S 99 7))) = 0 → H167 (z_s S 109 ((S 99 6).toInt.toNat) (S 99 7))) ∧ (¬ ((f_X12_isGood (z_s S 109 ((S 99 6).toInt.toNat) (S 99 7))) = 0) → H167 (g_X12_condition (z_s S 109 ((S 99 6).toInt.toNat) (S 99 7))))))
noncomputable def D_X12_clause_167  (H25 : Int32 → Int32 → v_Sf → Prop) (H37 : Int32 → Int32 → v_Sf → Prop) (H64 : Int32 → Int32 → v_Sf → Prop) (H143 : v_Sf → Prop) (H167 : v_Sf → Prop) (K : v_Sf → Prop)  (S : v_Sf) : Prop := (0 ≤ (S 99 6).toInt → (S 99 6).toInt < 16 → K (z_s (z_s S 110 ((S 99 6).toInt.toNat) (S 99 7)) 99 6 ((S 99 6) + (Int32.ofInt 1))))
noncomputable def D_X12_clause (a : Int32) (H25 : Int32 → Int32 → v_Sf → Prop) (H37 : Int32 → Int32 → v_Sf → Prop) (H64 : Int32 → Int32 → v_Sf → Prop) (H143 : v_Sf → Prop) (H167 : v_Sf → Prop) (K : v_Sf → Prop) (S : v_Sf) : Prop := ((a = 0 → (((¬ (f_X12_isClause (f_X12_here S)) = 0) → H37 a (f_X12_here S) S) ∧ (¬ (¬ (f_X12_isClause (f_X12_here S)) = 0) → H25 a (f_X12_here S) S))) ∧ (¬ (a = 0) → (((f_X12_here S) = (Int32.ofInt 40) → H37 a (f_X12_here S) S) ∧ (¬ ((f_X12_here S) = (Int32.ofInt 40)) → H25 a (f_X12_here S) S))))
set_option maxRecDepth 4000 in
theorem hd_X12_clause (L : Nat) (xs : Nat → Int32) {R : v_Rf} (a : Int32) (H25 : Int32 → Int32 → v_Sf → Prop) (H37 : Int32 → Int32 → v_Sf → Prop) (H64 : Int32 → Int32 → v_Sf → Prop) (H143 : v_Sf → Prop) (H167 : v_Sf → Prop) (K : v_Sf → Prop) (k25 : ∀ (x1 : Int32) (x2 : Int32) (S : v_Sf), H25 x1 x2 S → D_X12_clause_25 H25 H37 H64 H143 H167 K x1 x2 S) (k37 : ∀ (x1 : Int32) (x2 : Int32) (S : v_Sf), H37 x1 x2 S → D_X12_clause_37 H25 H37 H64 H143 H167 K x1 x2 S) (k64 : ∀ (x1 : Int32) (x2 : Int32) (S : v_Sf), H64 x1 x2 S → D_X12_clause_64 H25 H37 H64 H143 H167 K x1 x2 S) (k143 : ∀  (S : v_Sf), H143  S → D_X12_clause_143 H25 H37 H64 H143 H167 K S) (k167 : ∀  (S : v_Sf), H167  S → D_X12_clause_167 H25 H37 H64 H143 H167 K S) : ∀ n, (∀ (d : Nat) (x1 : Int32) (x2 : Int32) (S : v_Sf), H25 x1 x2 S → u_P L xs n d m_X12_clause 25 [(0, .ref 100), (1, .int x1), (2, .int x2)] [] S R (z_V R K)) ∧ (∀ (d : Nat) (x1 : Int32) (x2 : Int32) (S : v_Sf), H37 x1 x2 S → u_P L xs n d m_X12_clause 37 [(0, .ref 100), (1, .int x1), (2, .int x2)] [] S R (z_V R K)) ∧ (∀ (d : Nat) (x1 : Int32) (x2 : Int32) (S : v_Sf), H64 x1 x2 S → u_P L xs n d m_X12_clause 64 [(0, .ref 100), (1, .int x1), (2, .int x2)] [] S R (z_V R K)) ∧ (∀ (d : Nat) (j1 : Int32) (j2 : Int32) (S : v_Sf), H143  S → u_P L xs n d m_X12_clause 143 [(0, .ref 100), (1, .int j1), (2, .int j2)] [] S R (z_V R K)) ∧ (∀ (d : Nat) (j1 : Int32) (j2 : Int32) (S : v_Sf), H167  S → u_P L xs n d m_X12_clause 167 [(0, .ref 100), (1, .int j1), (2, .int j2)] [] S R (z_V R K)) := by
  intro n
  induction n using Nat.strongRecOn with
  | ind n ih =>
    refine ⟨?_, ?_, ?_, ?_, ?_⟩
    · intro d x1 x2 S hD
      have hD := k25 x1 x2 S hD
      unfold D_X12_clause_25 at hD
      show u_P L xs n d m_X12_clause 25 [(0, .ref 100), (1, .int x1), (2, .int x2)] [] S R _
      refine u_st1 rfl (fun _ => rfl) (fun m hm => ?_)
      refine u_st rfl (fun _ => rfl) ?_
      refine u_st rfl (fun _ => rfl) ?_
      show u_P L xs m d m_X12_clause 28 [(0, .ref 100), (1, .int x1), (2, .int x2)] [.ref 100, .int (Int32.ofInt 1), .ref 100] S R _
      refine u_getE (v := S 99 3) rfl v_tyM rfl rfl ?_
      show u_P L xs m d m_X12_clause 31 [(0, .ref 100), (1, .int x1), (2, .int x2)] [.int (S 99 3), .int (Int32.ofInt 1), .ref 100] S R _
      refine u_cv (rest := []) rfl (by decide) mt_X12_wrongs v_tyM rfl rfl rfl (Nat.le_of_ble_eq_true rfl) (Nat.le_of_ble_eq_true rfl) (Nat.le_of_ble_eq_true rfl) (fun d' => c_X12_wrongs L xs m d' (Int32.ofInt 1) (S 99 3) S R) ?_
      rintro _ _ _ ⟨rfl, rfl, rfl⟩
      refine u_st rfl (fun _ => rfl) ?_
      exact (ih m hm).2.2.1 d x1 x2 (g_X12_wrongs (Int32.ofInt 1) (S 99 3) S) hD
    · intro d x1 x2 S hD
      have hD := k37 x1 x2 S hD
      unfold D_X12_clause_37 at hD
      show u_P L xs n d m_X12_clause 37 [(0, .ref 100), (1, .int x1), (2, .int x2)] [] S R _
      refine u_st1 rfl (fun _ => rfl) (fun m hm => ?_)
      show u_P L xs m d m_X12_clause 38 [(0, .ref 100), (1, .int x1), (2, .int x2)] [.ref 100] S R _
      refine u_getE (v := S 99 6) rfl v_tyM rfl rfl ?_
      refine u_st rfl (fun _ => rfl) ?_
      show u_P L xs m d m_X12_clause 42 [(0, .ref 100), (1, .int x1), (2, .int x2)] [.int x1, .int (S 99 6)] S R _
      refine u_if_eq rfl (fun h1 => ?_) (fun h1 => ?_)
      · have hD := hD.1 h1
        show u_P L xs m d m_X12_clause 50 [(0, .ref 100), (1, .int x1), (2, .int x2)] [.int (S 99 6)] S R _
        refine u_st rfl (fun _ => rfl) ?_
        show u_P L xs m d m_X12_clause 52 [(0, .ref 100), (1, .int x1), (2, .int x2)] [.int (Int32.ofInt 16), .int (S 99 6)] S R _
        refine u_ic_ne rfl (fun h2 => ?_) (fun h2 => ?_)
        · have hD := hD.1 h2
          exact (ih m hm).2.2.1 d x1 x2 S hD
        · have hD := hD.2 h2
          show u_P L xs m d m_X12_clause 55 [(0, .ref 100), (1, .int x1), (2, .int x2)] [] S R _
          refine u_st rfl (fun _ => rfl) ?_
          refine u_st rfl (fun _ => rfl) ?_
          refine u_st rfl (fun _ => rfl) ?_
          show u_P L xs m d m_X12_clause 58 [(0, .ref 100), (1, .int x1), (2, .int x2)] [.ref 100, .int (Int32.ofInt 4), .ref 100] S R _
          refine u_getE (v := S 99 3) rfl v_tyM rfl rfl ?_
          show u_P L xs m d m_X12_clause 61 [(0, .ref 100), (1, .int x1), (2, .int x2)] [.int (S 99 3), .int (Int32.ofInt 4), .ref 100] S R _
          refine u_cv (rest := []) rfl (by decide) mt_X12_wrongs v_tyM rfl rfl rfl (Nat.le_of_ble_eq_true rfl) (Nat.le_of_ble_eq_true rfl) (Nat.le_of_ble_eq_true rfl) (fun d' => c_X12_wrongs L xs m d' (Int32.ofInt 4) (S 99 3) S R) ?_
          rintro _ _ _ ⟨rfl, rfl, rfl⟩
          exact (ih m hm).2.2.1 d x1 x2 (g_X12_wrongs (Int32.ofInt 4) (S 99 3) S) hD
      · have hD := hD.2 h1
        show u_P L xs m d m_X12_clause 45 [(0, .ref 100), (1, .int x1), (2, .int x2)] [.int (S 99 6)] S R _
        refine u_st rfl (fun _ => rfl) ?_
        refine u_st rfl (fun _ => rfl) ?_
        show u_P L xs m d m_X12_clause 52 [(0, .ref 100), (1, .int x1), (2, .int x2)] [.int (Int32.ofInt 12), .int (S 99 6)] S R _
        refine u_ic_ne rfl (fun h3 => ?_) (fun h3 => ?_)
        · have hD := hD.1 h3
          exact (ih m hm).2.2.1 d x1 x2 S hD
        · have hD := hD.2 h3
          show u_P L xs m d m_X12_clause 55 [(0, .ref 100), (1, .int x1), (2, .int x2)] [] S R _
          refine u_st rfl (fun _ => rfl) ?_
          refine u_st rfl (fun _ => rfl) ?_
          refine u_st rfl (fun _ => rfl) ?_
          show u_P L xs m d m_X12_clause 58 [(0, .ref 100), (1, .int x1), (2, .int x2)] [.ref 100, .int (Int32.ofInt 4), .ref 100] S R _
          refine u_getE (v := S 99 3) rfl v_tyM rfl rfl ?_
          show u_P L xs m d m_X12_clause 61 [(0, .ref 100), (1, .int x1), (2, .int x2)] [.int (S 99 3), .int (Int32.ofInt 4), .ref 100] S R _
          refine u_cv (rest := []) rfl (by decide) mt_X12_wrongs v_tyM rfl rfl rfl (Nat.le_of_ble_eq_true rfl) (Nat.le_of_ble_eq_true rfl) (Nat.le_of_ble_eq_true rfl) (fun d' => c_X12_wrongs L xs m d' (Int32.ofInt 4) (S 99 3) S R) ?_
          rintro _ _ _ ⟨rfl, rfl, rfl⟩
          exact (ih m hm).2.2.1 d x1 x2 (g_X12_wrongs (Int32.ofInt 4) (S 99 3) S) hD
    · intro d x1 x2 S hD
      have hD := k64 x1 x2 S hD
      unfold D_X12_clause_64 at hD
      show u_P L xs n d m_X12_clause 64 [(0, .ref 100), (1, .int x1), (2, .int x2)] [] S R _
      refine u_st1 rfl (fun _ => rfl) (fun m hm => ?_)
      show u_P L xs m d m_X12_clause 65 [(0, .ref 100), (1, .int x1), (2, .int x2)] [.ref 100] S R _
      refine u_cv (rest := []) rfl (by decide) mt_X12_isGood v_tyM rfl rfl rfl (Nat.le_of_ble_eq_true rfl) (Nat.le_of_ble_eq_true rfl) (Nat.le_of_ble_eq_true rfl) (fun d' => c_X12_isGood L xs m d' S R) ?_
      rintro _ _ _ ⟨_, rfl, rfl, rfl, rfl⟩
      show u_P L xs m d m_X12_clause 68 [(0, .ref 100), (1, .int x1), (2, .int x2)] [.int (f_X12_isGood S)] S R _
      refine u_if_ne rfl (fun h1 => ?_) (fun h1 => ?_)
      · have hD := hD.1 h1
        show u_P L xs m d m_X12_clause 72 [(0, .ref 100), (1, .int x1), (2, .int x2)] [] S R _
        refine u_st rfl (fun _ => rfl) ?_
        show u_P L xs m d m_X12_clause 73 [(0, .ref 100), (1, .int x1), (2, .int x2)] [.ref 100] S R _
        refine u_getr rfl v_tyM rfl ?_
        refine u_st rfl (fun _ => rfl) ?_
        show u_P L xs m d m_X12_clause 77 [(0, .ref 100), (1, .int x1), (2, .int x2)] [.ref 100, .ref 108] S R _
        refine u_getE (v := S 99 6) rfl v_tyM rfl rfl ?_
        refine u_st rfl (fun _ => rfl) ?_
        show u_P L xs m d m_X12_clause 81 [(0, .ref 100), (1, .int x1), (2, .int x2)] [.int x2, .int (S 99 6), .ref 108] S R _
        refine u_iast rfl rfl (fun b21 b22 => ?_)
        have hD := hD b21 b22
        show u_P L xs m d m_X12_clause 82 [(0, .ref 100), (1, .int x1), (2, .int x2)] [] (z_s S 107 ((S 99 6).toInt.toNat) x2) R _
        refine u_st rfl (fun _ => rfl) ?_
        show u_P L xs m d m_X12_clause 83 [(0, .ref 100), (1, .int x1), (2, .int x2)] [.ref 100] (z_s S 107 ((S 99 6).toInt.toNat) x2) R _
        refine u_getr rfl v_tyM rfl ?_
        refine u_st rfl (fun _ => rfl) ?_
        show u_P L xs m d m_X12_clause 87 [(0, .ref 100), (1, .int x1), (2, .int x2)] [.ref 100, .ref 109] (z_s S 107 ((S 99 6).toInt.toNat) x2) R _
        refine u_getE (v := S 99 6) rfl v_tyM rfl (z_sn (fun h => absurd h.1 (by decide))) ?_
        refine u_st rfl (fun _ => rfl) ?_
        show u_P L xs m d m_X12_clause 91 [(0, .ref 100), (1, .int x1), (2, .int x2)] [.ref 100, .int (S 99 6), .ref 109] (z_s S 107 ((S 99 6).toInt.toNat) x2) R _
        refine u_getE (v := S 99 7) rfl v_tyM rfl (z_sn (fun h => absurd h.1 (by decide))) ?_
        show u_P L xs m d m_X12_clause 94 [(0, .ref 100), (1, .int x1), (2, .int x2)] [.int (S 99 7), .int (S 99 6), .ref 109] (z_s S 107 ((S 99 6).toInt.toNat) x2) R _
        refine u_iast rfl rfl (fun b31 b32 => ?_)
        have hD := hD b31 b32
        show u_P L xs m d m_X12_clause 95 [(0, .ref 100), (1, .int x1), (2, .int x2)] [] (z_s (z_s S 107 ((S 99 6).toInt.toNat) x2) 108 ((S 99 6).toInt.toNat) (S 99 7)) R _
        refine u_st rfl (fun _ => rfl) ?_
        refine u_st rfl (fun _ => rfl) ?_
        show u_P L xs m d m_X12_clause 97 [(0, .ref 100), (1, .int x1), (2, .int x2)] [.ref 100, .ref 100] (z_s (z_s S 107 ((S 99 6).toInt.toNat) x2) 108 ((S 99 6).toInt.toNat) (S 99 7)) R _
        refine u_getE (v := S 99 3) rfl v_tyM rfl ((z_sn (fun h => absurd h.1 (by decide))).trans (z_sn (fun h => absurd h.1 (by decide)))) ?_
        refine u_st rfl (fun _ => rfl) ?_
        show u_P L xs m d m_X12_clause 101 [(0, .ref 100), (1, .int x1), (2, .int x2)] [.int x1, .int (S 99 3), .ref 100] (z_s (z_s S 107 ((S 99 6).toInt.toNat) x2) 108 ((S 99 6).toInt.toNat) (S 99 7)) R _
        refine u_if_eq rfl (fun h4 => ?_) (fun h4 => ?_)
        · have hD := hD.1 h4
          show u_P L xs m d m_X12_clause 108 [(0, .ref 100), (1, .int x1), (2, .int x2)] [.int (S 99 3), .ref 100] (z_s (z_s S 107 ((S 99 6).toInt.toNat) x2) 108 ((S 99 6).toInt.toNat) (S 99 7)) R _
          refine u_st rfl (fun _ => rfl) ?_
          refine u_st rfl (fun _ => rfl) ?_
          show u_P L xs m d m_X12_clause 110 [(0, .ref 100), (1, .int x1), (2, .int x2)] [.int ((S 99 3) + (Int32.ofInt 1)), .ref 100] (z_s (z_s S 107 ((S 99 6).toInt.toNat) x2) 108 ((S 99 6).toInt.toNat) (S 99 7)) R _
          refine u_put rfl v_tyM rfl ?_
          refine u_st rfl (fun _ => rfl) ?_
          refine u_st rfl (fun _ => rfl) ?_
          show u_P L xs m d m_X12_clause 115 [(0, .ref 100), (1, .int x1), (2, .int x2)] [.int (Int32.ofInt 0), .ref 100] (z_s (z_s (z_s S 107 ((S 99 6).toInt.toNat) x2) 108 ((S 99 6).toInt.toNat) (S 99 7)) 99 3 ((S 99 3) + (Int32.ofInt 1))) R _
          refine u_put rfl v_tyM rfl ?_
          refine u_st rfl (fun _ => rfl) ?_
          refine u_st rfl (fun _ => rfl) ?_
          show u_P L xs m d m_X12_clause 120 [(0, .ref 100), (1, .int x1), (2, .int x2)] [.int (Int32.ofInt 0), .ref 100] (z_s (z_s (z_s (z_s S 107 ((S 99 6).toInt.toNat) x2) 108 ((S 99 6).toInt.toNat) (S 99 7)) 99 3 ((S 99 3) + (Int32.ofInt 1))) 99 9 (Int32.ofInt 0)) R _
          refine u_put rfl v_tyM rfl ?_
          refine u_st rfl (fun _ => rfl) ?_
          show u_P L xs m d m_X12_clause 124 [(0, .ref 100), (1, .int x1), (2, .int x2)] [.int x1] (z_s (z_s (z_s (z_s (z_s S 107 ((S 99 6).toInt.toNat) x2) 108 ((S 99 6).toInt.toNat) (S 99 7)) 99 3 ((S 99 3) + (Int32.ofInt 1))) 99 9 (Int32.ofInt 0)) 99 8 (Int32.ofInt 0)) R _
          refine u_if_ne rfl (fun h5 => absurd h4 h5) (fun _ => ?_)
          show u_P L xs m d m_X12_clause 127 [(0, .ref 100), (1, .int x1), (2, .int x2)] [] (z_s (z_s (z_s (z_s (z_s S 107 ((S 99 6).toInt.toNat) x2) 108 ((S 99 6).toInt.toNat) (S 99 7)) 99 3 ((S 99 3) + (Int32.ofInt 1))) 99 9 (Int32.ofInt 0)) 99 8 (Int32.ofInt 0)) R _
          refine u_st rfl (fun _ => rfl) ?_
          refine u_st rfl (fun _ => rfl) ?_
          show u_P L xs m d m_X12_clause 130 [(0, .ref 100), (1, .int x1), (2, .int x2)] [.int (Int32.ofInt 101), .int x2] (z_s (z_s (z_s (z_s (z_s S 107 ((S 99 6).toInt.toNat) x2) 108 ((S 99 6).toInt.toNat) (S 99 7)) 99 3 ((S 99 3) + (Int32.ofInt 1))) 99 9 (Int32.ofInt 0)) 99 8 (Int32.ofInt 0)) R _
          refine u_ic_eq rfl (fun h6 => ?_) (fun h6 => ?_)
          · have hD := hD.1 h6
            exact (ih m hm).2.2.2.1 d x1 x2 (z_s (z_s (z_s (z_s (z_s S 107 ((S 99 6).toInt.toNat) x2) 108 ((S 99 6).toInt.toNat) (S 99 7)) 99 3 ((S 99 3) + (Int32.ofInt 1))) 99 9 (Int32.ofInt 0)) 99 8 (Int32.ofInt 0)) hD
          · have hD := hD.2 h6
            show u_P L xs m d m_X12_clause 133 [(0, .ref 100), (1, .int x1), (2, .int x2)] [] (z_s (z_s (z_s (z_s (z_s S 107 ((S 99 6).toInt.toNat) x2) 108 ((S 99 6).toInt.toNat) (S 99 7)) 99 3 ((S 99 3) + (Int32.ofInt 1))) 99 9 (Int32.ofInt 0)) 99 8 (Int32.ofInt 0)) R _
            refine u_st rfl (fun _ => rfl) ?_
            refine u_st rfl (fun _ => rfl) ?_
            show u_P L xs m d m_X12_clause 136 [(0, .ref 100), (1, .int x1), (2, .int x2)] [.int (Int32.ofInt 120), .int x2] (z_s (z_s (z_s (z_s (z_s S 107 ((S 99 6).toInt.toNat) x2) 108 ((S 99 6).toInt.toNat) (S 99 7)) 99 3 ((S 99 3) + (Int32.ofInt 1))) 99 9 (Int32.ofInt 0)) 99 8 (Int32.ofInt 0)) R _
            refine u_ic_eq rfl (fun h7 => ?_) (fun h7 => ?_)
            · have hD := hD.1 h7
              exact (ih m hm).2.2.2.1 d x1 x2 (z_s (z_s (z_s (z_s (z_s S 107 ((S 99 6).toInt.toNat) x2) 108 ((S 99 6).toInt.toNat) (S 99 7)) 99 3 ((S 99 3) + (Int32.ofInt 1))) 99 9 (Int32.ofInt 0)) 99 8 (Int32.ofInt 0)) hD
            · have hD := hD.2 h7
              show u_P L xs m d m_X12_clause 139 [(0, .ref 100), (1, .int x1), (2, .int x2)] [] (z_s (z_s (z_s (z_s (z_s S 107 ((S 99 6).toInt.toNat) x2) 108 ((S 99 6).toInt.toNat) (S 99 7)) 99 3 ((S 99 3) + (Int32.ofInt 1))) 99 9 (Int32.ofInt 0)) 99 8 (Int32.ofInt 0)) R _
              refine u_st rfl (fun _ => rfl) ?_
              show u_P L xs m d m_X12_clause 140 [(0, .ref 100), (1, .int x1), (2, .int x2)] [.ref 100] (z_s (z_s (z_s (z_s (z_s S 107 ((S 99 6).toInt.toNat) x2) 108 ((S 99 6).toInt.toNat) (S 99 7)) 99 3 ((S 99 3) + (Int32.ofInt 1))) 99 9 (Int32.ofInt 0)) 99 8 (Int32.ofInt 0)) R _
              refine u_cv (rest := []) rfl (by decide) mt_X12_value v_tyM rfl rfl rfl (Nat.le_of_ble_eq_true rfl) (Nat.le_of_ble_eq_true rfl) (Nat.le_of_ble_eq_true rfl) (fun d' => c_X12_value L xs m d' (z_s (z_s (z_s (z_s (z_s S 107 ((S 99 6).toInt.toNat) x2) 108 ((S 99 6).toInt.toNat) (S 99 7)) 99 3 ((S 99 3) + (Int32.ofInt 1))) 99 9 (Int32.ofInt 0)) 99 8 (Int32.ofInt 0)) R) ?_
              rintro _ _ _ ⟨rfl, rfl, rfl⟩
              exact (ih m hm).2.2.2.1 d x1 x2 (g_X12_value (z_s (z_s (z_s (z_s (z_s S 107 ((S 99 6).toInt.toNat) x2) 108 ((S 99 6).toInt.toNat) (S 99 7)) 99 3 ((S 99 3) + (Int32.ofInt 1))) 99 9 (Int32.ofInt 0)) 99 8 (Int32.ofInt 0))) hD
        · have hD := hD.2 h4
          show u_P L xs m d m_X12_clause 104 [(0, .ref 100), (1, .int x1), (2, .int x2)] [.int (S 99 3), .ref 100] (z_s (z_s S 107 ((S 99 6).toInt.toNat) x2) 108 ((S 99 6).toInt.toNat) (S 99 7)) R _
          refine u_st rfl (fun _ => rfl) ?_
          refine u_st rfl (fun _ => rfl) ?_
          refine u_st rfl (fun _ => rfl) ?_
          show u_P L xs m d m_X12_clause 110 [(0, .ref 100), (1, .int x1), (2, .int x2)] [.int ((S 99 3) + (Int32.ofInt 0)), .ref 100] (z_s (z_s S 107 ((S 99 6).toInt.toNat) x2) 108 ((S 99 6).toInt.toNat) (S 99 7)) R _
          refine u_put rfl v_tyM rfl ?_
          refine u_st rfl (fun _ => rfl) ?_
          refine u_st rfl (fun _ => rfl) ?_
          show u_P L xs m d m_X12_clause 115 [(0, .ref 100), (1, .int x1), (2, .int x2)] [.int (Int32.ofInt 0), .ref 100] (z_s (z_s (z_s S 107 ((S 99 6).toInt.toNat) x2) 108 ((S 99 6).toInt.toNat) (S 99 7)) 99 3 ((S 99 3) + (Int32.ofInt 0))) R _
          refine u_put rfl v_tyM rfl ?_
          refine u_st rfl (fun _ => rfl) ?_
          refine u_st rfl (fun _ => rfl) ?_
          show u_P L xs m d m_X12_clause 120 [(0, .ref 100), (1, .int x1), (2, .int x2)] [.int (Int32.ofInt 0), .ref 100] (z_s (z_s (z_s (z_s S 107 ((S 99 6).toInt.toNat) x2) 108 ((S 99 6).toInt.toNat) (S 99 7)) 99 3 ((S 99 3) + (Int32.ofInt 0))) 99 9 (Int32.ofInt 0)) R _
          refine u_put rfl v_tyM rfl ?_
          refine u_st rfl (fun _ => rfl) ?_
          show u_P L xs m d m_X12_clause 124 [(0, .ref 100), (1, .int x1), (2, .int x2)] [.int x1] (z_s (z_s (z_s (z_s (z_s S 107 ((S 99 6).toInt.toNat) x2) 108 ((S 99 6).toInt.toNat) (S 99 7)) 99 3 ((S 99 3) + (Int32.ofInt 0))) 99 9 (Int32.ofInt 0)) 99 8 (Int32.ofInt 0)) R _
          refine u_if_ne rfl (fun _ => ?_) (fun h8 => absurd h4 h8)
          exact (ih m hm).2.2.2.1 d x1 x2 (z_s (z_s (z_s (z_s (z_s S 107 ((S 99 6).toInt.toNat) x2) 108 ((S 99 6).toInt.toNat) (S 99 7)) 99 3 ((S 99 3) + (Int32.ofInt 0))) 99 9 (Int32.ofInt 0)) 99 8 (Int32.ofInt 0)) hD
      · have hD := hD.2 h1
        show u_P L xs m d m_X12_clause 71 [(0, .ref 100), (1, .int x1), (2, .int x2)] [] S R _
        exact u_ret rfl rfl ⟨rfl, rfl, hD⟩
    · intro d j1 j2 S hD
      have hD := k143  S hD
      unfold D_X12_clause_143 at hD
      show u_P L xs n d m_X12_clause 143 [(0, .ref 100), (1, .int j1), (2, .int j2)] [] S R _
      refine u_st1 rfl (fun _ => rfl) (fun m hm => ?_)
      show u_P L xs m d m_X12_clause 144 [(0, .ref 100), (1, .int j1), (2, .int j2)] [.ref 100] S R _
      refine u_getr rfl v_tyM rfl ?_
      refine u_st rfl (fun _ => rfl) ?_
      show u_P L xs m d m_X12_clause 148 [(0, .ref 100), (1, .int j1), (2, .int j2)] [.ref 100, .ref 110] S R _
      refine u_getE (v := S 99 6) rfl v_tyM rfl rfl ?_
      refine u_st rfl (fun _ => rfl) ?_
      show u_P L xs m d m_X12_clause 152 [(0, .ref 100), (1, .int j1), (2, .int j2)] [.ref 100, .int (S 99 6), .ref 110] S R _
      refine u_getE (v := S 99 7) rfl v_tyM rfl rfl ?_
      show u_P L xs m d m_X12_clause 155 [(0, .ref 100), (1, .int j1), (2, .int j2)] [.int (S 99 7), .int (S 99 6), .ref 110] S R _
      refine u_iast rfl rfl (fun b11 b12 => ?_)
      have hD := hD b11 b12
      show u_P L xs m d m_X12_clause 156 [(0, .ref 100), (1, .int j1), (2, .int j2)] [] (z_s S 109 ((S 99 6).toInt.toNat) (S 99 7)) R _
      refine u_st rfl (fun _ => rfl) ?_
      show u_P L xs m d m_X12_clause 157 [(0, .ref 100), (1, .int j1), (2, .int j2)] [.ref 100] (z_s S 109 ((S 99 6).toInt.toNat) (S 99 7)) R _
      refine u_cv (rest := []) rfl (by decide) mt_X12_isGood v_tyM rfl rfl rfl (Nat.le_of_ble_eq_true rfl) (Nat.le_of_ble_eq_true rfl) (Nat.le_of_ble_eq_true rfl) (fun d' => c_X12_isGood L xs m d' (z_s S 109 ((S 99 6).toInt.toNat) (S 99 7)) R) ?_
      rintro _ _ _ ⟨_, rfl, rfl, rfl, rfl⟩
      show u_P L xs m d m_X12_clause 160 [(0, .ref 100), (1, .int j1), (2, .int j2)] [.int (f_X12_isGood (z_s S 109 ((S 99 6).toInt.toNat) (S 99 7)))] (z_s S 109 ((S 99 6).toInt.toNat) (S 99 7)) R _
      refine u_if_eq rfl (fun h2 => ?_) (fun h2 => ?_)
      · have hD := hD.1 h2
        exact (ih m hm).2.2.2.2 d j1 j2 (z_s S 109 ((S 99 6).toInt.toNat) (S 99 7)) hD
      · have hD := hD.2 h2
        show u_P L xs m d m_X12_clause 163 [(0, .ref 100), (1, .int j1), (2, .int j2)] [] (z_s S 109 ((S 99 6).toInt.toNat) (S 99 7)) R _
        refine u_st rfl (fun _ => rfl) ?_
        show u_P L xs m d m_X12_clause 164 [(0, .ref 100), (1, .int j1), (2, .int j2)] [.ref 100] (z_s S 109 ((S 99 6).toInt.toNat) (S 99 7)) R _
        refine u_cv (rest := []) rfl (by decide) mt_X12_condition v_tyM rfl rfl rfl (Nat.le_of_ble_eq_true rfl) (Nat.le_of_ble_eq_true rfl) (Nat.le_of_ble_eq_true rfl) (fun d' => c_X12_condition L xs m d' (z_s S 109 ((S 99 6).toInt.toNat) (S 99 7)) R) ?_
        rintro _ _ _ ⟨rfl, rfl, rfl⟩
        exact (ih m hm).2.2.2.2 d j1 j2 (g_X12_condition (z_s S 109 ((S 99 6).toInt.toNat) (S 99 7))) hD
    · intro d j1 j2 S hD
      have hD := k167  S hD
      unfold D_X12_clause_167 at hD
      show u_P L xs n d m_X12_clause 167 [(0, .ref 100), (1, .int j1), (2, .int j2)] [] S R _
      refine u_st1 rfl (fun _ => rfl) (fun m hm => ?_)
      show u_P L xs m d m_X12_clause 168 [(0, .ref 100), (1, .int j1), (2, .int j2)] [.ref 100] S R _
      refine u_getr rfl v_tyM rfl ?_
      refine u_st rfl (fun _ => rfl) ?_
      show u_P L xs m d m_X12_clause 172 [(0, .ref 100), (1, .int j1), (2, .int j2)] [.ref 100, .ref 111] S R _
      refine u_getE (v := S 99 6) rfl v_tyM rfl rfl ?_
      refine u_st rfl (fun _ => rfl) ?_
      show u_P L xs m d m_X12_clause 176 [(0, .ref 100), (1, .int j1), (2, .int j2)] [.ref 100, .int (S 99 6), .ref 111] S R _
      refine u_getE (v := S 99 7) rfl v_tyM rfl rfl ?_
      show u_P L xs m d m_X12_clause 179 [(0, .ref 100), (1, .int j1), (2, .int j2)] [.int (S 99 7), .int (S 99 6), .ref 111] S R _
      refine u_iast rfl rfl (fun b11 b12 => ?_)
      have hD := hD b11 b12
      show u_P L xs m d m_X12_clause 180 [(0, .ref 100), (1, .int j1), (2, .int j2)] [] (z_s S 110 ((S 99 6).toInt.toNat) (S 99 7)) R _
      refine u_st rfl (fun _ => rfl) ?_
      refine u_st rfl (fun _ => rfl) ?_
      show u_P L xs m d m_X12_clause 182 [(0, .ref 100), (1, .int j1), (2, .int j2)] [.ref 100, .ref 100] (z_s S 110 ((S 99 6).toInt.toNat) (S 99 7)) R _
      refine u_getE (v := S 99 6) rfl v_tyM rfl (z_sn (fun h => absurd h.1 (by decide))) ?_
      refine u_st rfl (fun _ => rfl) ?_
      refine u_st rfl (fun _ => rfl) ?_
      show u_P L xs m d m_X12_clause 187 [(0, .ref 100), (1, .int j1), (2, .int j2)] [.int ((S 99 6) + (Int32.ofInt 1)), .ref 100] (z_s S 110 ((S 99 6).toInt.toNat) (S 99 7)) R _
      refine u_put rfl v_tyM rfl ?_
      show u_P L xs m d m_X12_clause 190 [(0, .ref 100), (1, .int j1), (2, .int j2)] [] (z_s (z_s S 110 ((S 99 6).toInt.toNat) (S 99 7)) 99 6 ((S 99 6) + (Int32.ofInt 1))) R _
      exact u_ret rfl rfl ⟨rfl, rfl, hD⟩
set_option maxRecDepth 4000 in
theorem w_X12_clause (L : Nat) (xs : Nat → Int32) {R : v_Rf} (a : Int32) (H25 : Int32 → Int32 → v_Sf → Prop) (H37 : Int32 → Int32 → v_Sf → Prop) (H64 : Int32 → Int32 → v_Sf → Prop) (H143 : v_Sf → Prop) (H167 : v_Sf → Prop) (K : v_Sf → Prop) (k25 : ∀ (x1 : Int32) (x2 : Int32) (S : v_Sf), H25 x1 x2 S → D_X12_clause_25 H25 H37 H64 H143 H167 K x1 x2 S) (k37 : ∀ (x1 : Int32) (x2 : Int32) (S : v_Sf), H37 x1 x2 S → D_X12_clause_37 H25 H37 H64 H143 H167 K x1 x2 S) (k64 : ∀ (x1 : Int32) (x2 : Int32) (S : v_Sf), H64 x1 x2 S → D_X12_clause_64 H25 H37 H64 H143 H167 K x1 x2 S) (k143 : ∀  (S : v_Sf), H143  S → D_X12_clause_143 H25 H37 H64 H143 H167 K S) (k167 : ∀  (S : v_Sf), H167  S → D_X12_clause_167 H25 H37 H64 H143 H167 K S) (n d : Nat) (S : v_Sf) (hD : D_X12_clause a H25 H37 H64 H143 H167 K S) : u_P L xs n d m_X12_clause 0 (lv_args 0 [.ref 100, .int a]) [] S R (z_V R K) := by
  unfold D_X12_clause at hD
  show u_P L xs n d m_X12_clause 0 [(0, .ref 100), (1, .int a)] [] S R _
  refine u_st rfl (fun _ => rfl) ?_
  show u_P L xs n d m_X12_clause 1 [(0, .ref 100), (1, .int a)] [.ref 100] S R _
  refine u_cv (rest := []) rfl (by decide) mt_X12_here v_tyM rfl rfl rfl (Nat.le_of_ble_eq_true rfl) (Nat.le_of_ble_eq_true rfl) (Nat.le_of_ble_eq_true rfl) (fun d' => c_X12_here L xs n d' S R) ?_
  rintro _ _ _ ⟨_, rfl, rfl, rfl, rfl⟩
  refine u_st rfl (fun _ => rfl) ?_
  refine u_st rfl (fun _ => rfl) ?_
  show u_P L xs n d m_X12_clause 6 [(2, .int (f_X12_here S)), (0, .ref 100), (1, .int a)] [.int a] S R _
  refine u_if_eq rfl (fun h1 => ?_) (fun h1 => ?_)
  · have hD := hD.1 h1
    show u_P L xs n d m_X12_clause 18 [(2, .int (f_X12_here S)), (0, .ref 100), (1, .int a)] [] S R _
    refine u_st rfl (fun _ => rfl) ?_
    show u_P L xs n d m_X12_clause 19 [(2, .int (f_X12_here S)), (0, .ref 100), (1, .int a)] [.int (f_X12_here S)] S R _
    refine u_cs (ac := [.int (f_X12_here S)]) (rest := []) rfl (by decide) mt_X12_isClause (fun _ => rfl) (Nat.le_of_ble_eq_true rfl) (Nat.le_of_ble_eq_true rfl) (fun d' => c_X12_isClause L xs n d' (f_X12_here S) S R) ?_
    rintro _ _ _ ⟨_, rfl, rfl, rfl, rfl⟩
    show u_P L xs n d m_X12_clause 22 [(2, .int (f_X12_here S)), (0, .ref 100), (1, .int a)] [.int (f_X12_isClause (f_X12_here S))] S R _
    refine u_if_ne rfl (fun h2 => ?_) (fun h2 => ?_)
    · have hD := hD.1 h2
      refine u_lc (b := [(0, .ref 100), (1, .int a), (2, .int (f_X12_here S))]) (show ([2, 0, 1] : List Nat).Nodup by decide) (show ([0, 1, 2] : List Nat).Nodup by decide) (fun i => match i with | 0 => rfl | 1 => rfl | 2 => rfl | _ + 3 => rfl) ?_
      exact (hd_X12_clause L xs a H25 H37 H64 H143 H167 K k25 k37 k64 k143 k167 n).2.1 d a (f_X12_here S) S hD
    · have hD := hD.2 h2
      refine u_lc (b := [(0, .ref 100), (1, .int a), (2, .int (f_X12_here S))]) (show ([2, 0, 1] : List Nat).Nodup by decide) (show ([0, 1, 2] : List Nat).Nodup by decide) (fun i => match i with | 0 => rfl | 1 => rfl | 2 => rfl | _ + 3 => rfl) ?_
      exact (hd_X12_clause L xs a H25 H37 H64 H143 H167 K k25 k37 k64 k143 k167 n).1 d a (f_X12_here S) S hD
  · have hD := hD.2 h1
    show u_P L xs n d m_X12_clause 9 [(2, .int (f_X12_here S)), (0, .ref 100), (1, .int a)] [] S R _
    refine u_st rfl (fun _ => rfl) ?_
    refine u_st rfl (fun _ => rfl) ?_
    show u_P L xs n d m_X12_clause 12 [(2, .int (f_X12_here S)), (0, .ref 100), (1, .int a)] [.int (Int32.ofInt 40), .int (f_X12_here S)] S R _
    refine u_ic_eq rfl (fun h3 => ?_) (fun h3 => ?_)
    · have hD := hD.1 h3
      refine u_lc (b := [(0, .ref 100), (1, .int a), (2, .int (f_X12_here S))]) (show ([2, 0, 1] : List Nat).Nodup by decide) (show ([0, 1, 2] : List Nat).Nodup by decide) (fun i => match i with | 0 => rfl | 1 => rfl | 2 => rfl | _ + 3 => rfl) ?_
      exact (hd_X12_clause L xs a H25 H37 H64 H143 H167 K k25 k37 k64 k143 k167 n).2.1 d a (f_X12_here S) S hD
    · have hD := hD.2 h3
      show u_P L xs n d m_X12_clause 15 [(2, .int (f_X12_here S)), (0, .ref 100), (1, .int a)] [] S R _
      refine u_st rfl (fun _ => rfl) ?_
      refine u_lc (b := [(0, .ref 100), (1, .int a), (2, .int (f_X12_here S))]) (show ([2, 0, 1] : List Nat).Nodup by decide) (show ([0, 1, 2] : List Nat).Nodup by decide) (fun i => match i with | 0 => rfl | 1 => rfl | 2 => rfl | _ + 3 => rfl) ?_
      exact (hd_X12_clause L xs a H25 H37 H64 H143 H167 K k25 k37 k64 k143 k167 n).1 d a (f_X12_here S) S hD
noncomputable def j_X12_clause_167 (x1 : Int32) (x2 : Int32) (S : v_Sf) : v_Sf := z_s (z_s S 110 ((S 99 6).toInt.toNat) (S 99 7)) 99 6 ((S 99 6) + (Int32.ofInt 1))
noncomputable def j_X12_clause_143 (x1 : Int32) (x2 : Int32) (S : v_Sf) : v_Sf := (if (f_X12_isGood (z_s S 109 ((S 99 6).toInt.toNat) (S 99 7))) = 0 then j_X12_clause_167 x1 x2 (z_s S 109 ((S 99 6).toInt.toNat) (S 99 7)) else j_X12_clause_167 x1 x2 (g_X12_condition (z_s S 109 ((S 99 6).toInt.toNat) (S 99 7))))
noncomputable def j_X12_clause_64 (x1 : Int32) (x2 : Int32) (S : v_Sf) : v_Sf := (if ¬ (f_X12_isGood S) = 0 then (if x1 = 0 then (if x2 = (Int32.ofInt 101) then j_X12_clause_143 x1 x2 (z_s (z_s (z_s (z_s (z_s S 107 ((S 99 6).toInt.toNat) x2) 108 ((S 99 6).toInt.toNat) (S 99 7)) 99 3 ((S 99 3) + (Int32.ofInt 1))) 99 9 (Int32.ofInt 0)) 99 8 (Int32.ofInt 0)) else (if x2 = (Int32.ofInt 120) then j_X12_clause_143 x1 x2 (z_s (z_s (z_s (z_s (z_s S 107 ((S 99 6).toInt.toNat) x2) 108 ((S 99 6).toInt.toNat) (S 99 7)) 99 3 ((S 99 3) + (Int32.ofInt 1))) 99 9 (Int32.ofInt 0)) 99 8 (Int32.ofInt 0)) else j_X12_clause_143 x1 x2 (g_X12_value (z_s (z_s (z_s (z_s (z_s S 107 ((S 99 6).toInt.toNat) x2) 108 ((S 99 6).toInt.toNat) (S 99 7)) 99 3 ((S 99 3) + (Int32.ofInt 1))) 99 9 (Int32.ofInt 0)) 99 8 (Int32.ofInt 0))))) else j_X12_clause_143 x1 x2 (z_s (z_s (z_s (z_s (z_s S 107 ((S 99 6).toInt.toNat) x2) 108 ((S 99 6).toInt.toNat) (S 99 7)) 99 3 ((S 99 3) + (Int32.ofInt 0))) 99 9 (Int32.ofInt 0)) 99 8 (Int32.ofInt 0))) else S)
noncomputable def j_X12_clause_37 (x1 : Int32) (x2 : Int32) (S : v_Sf) : v_Sf := (if x1 = 0 then (if ¬ (S 99 6) = (Int32.ofInt 16) then j_X12_clause_64 x1 x2 S else j_X12_clause_64 x1 x2 (g_X12_wrongs (Int32.ofInt 4) (S 99 3) S)) else (if ¬ (S 99 6) = (Int32.ofInt 12) then j_X12_clause_64 x1 x2 S else j_X12_clause_64 x1 x2 (g_X12_wrongs (Int32.ofInt 4) (S 99 3) S)))
noncomputable def j_X12_clause_25 (x1 : Int32) (x2 : Int32) (S : v_Sf) : v_Sf := j_X12_clause_64 x1 x2 (g_X12_wrongs (Int32.ofInt 1) (S 99 3) S)
noncomputable def F_X12_clause (a : Int32) (S : v_Sf) : v_Sf := (if a = 0 then (if ¬ (f_X12_isClause (f_X12_here S)) = 0 then j_X12_clause_37 a (f_X12_here S) S else j_X12_clause_25 a (f_X12_here S) S) else (if (f_X12_here S) = (Int32.ofInt 40) then j_X12_clause_37 a (f_X12_here S) S else j_X12_clause_25 a (f_X12_here S) S))
noncomputable def g_X12_clause (a : Int32) (S : v_Sf) : v_Sf := F_X12_clause a S
theorem c_X12_clause (L : Nat) (xs : Nat → Int32) (n d : Nat) (a : Int32) (S : v_Sf) (R : v_Rf) : u_P L xs n d m_X12_clause 0 (lv_args 0 [.ref 100, .int a]) [] S R (z_V R (fun S1 => g_X12_clause a S = S1)) := by
  refine w_X12_clause L xs a (fun y1 y2 T => a = y1 ∧ f_X12_here S = y2 ∧ j_X12_clause_25 a (f_X12_here S) T = F_X12_clause a S) (fun y1 y2 T => a = y1 ∧ f_X12_here S = y2 ∧ j_X12_clause_37 a (f_X12_here S) T = F_X12_clause a S) (fun y1 y2 T => a = y1 ∧ f_X12_here S = y2 ∧ j_X12_clause_64 a (f_X12_here S) T = F_X12_clause a S) (fun  T => j_X12_clause_143 a (f_X12_here S) T = F_X12_clause a S) (fun  T => j_X12_clause_167 a (f_X12_here S) T = F_X12_clause a S) (fun S1 => g_X12_clause a S = S1) ?_ ?_ ?_ ?_ ?_ n d S ?_
  · rintro _ _ S1 ⟨rfl, rfl, e⟩
    unfold D_X12_clause_25
    rw [j_X12_clause_25] at e
    exact ⟨rfl, rfl, e⟩
  · rintro _ _ S1 ⟨rfl, rfl, e⟩
    unfold D_X12_clause_37
    rw [j_X12_clause_37] at e
    refine ⟨fun q1 => ?_, fun q1 => ?_⟩
    · refine ⟨fun q2 => ?_, fun q2 => ?_⟩
      · rw [if_pos q1, if_pos q2] at e
        exact ⟨rfl, rfl, e⟩
      · rw [if_pos q1, if_neg q2] at e
        exact ⟨rfl, rfl, e⟩
    · refine ⟨fun q3 => ?_, fun q3 => ?_⟩
      · rw [if_neg q1, if_pos q3] at e
        exact ⟨rfl, rfl, e⟩
      · rw [if_neg q1, if_neg q3] at e
        exact ⟨rfl, rfl, e⟩
  · rintro _ _ S1 ⟨rfl, rfl, e⟩
    unfold D_X12_clause_64
    rw [j_X12_clause_64] at e
    refine ⟨fun q4 => ?_, fun q4 => ?_⟩
    · intro _ _
      intro _ _
      refine ⟨fun q5 => ?_, fun q5 => ?_⟩
      · refine ⟨fun q6 => ?_, fun q6 => ?_⟩
        · rw [if_pos q4, if_pos q5, if_pos q6] at e
          exact e
        · refine ⟨fun q7 => ?_, fun q7 => ?_⟩
          · rw [if_pos q4, if_pos q5, if_neg q6, if_pos q7] at e
            exact e
          · rw [if_pos q4, if_pos q5, if_neg q6, if_neg q7] at e
            exact e
      · rw [if_pos q4, if_neg q5] at e
        exact e
    · rw [if_neg q4] at e
      exact e.symm
  · rintro  S1 e
    unfold D_X12_clause_143
    rw [j_X12_clause_143] at e
    intro _ _
    refine ⟨fun q8 => ?_, fun q8 => ?_⟩
    · rw [if_pos q8] at e
      exact e
    · rw [if_neg q8] at e
      exact e
  · rintro  S1 e
    unfold D_X12_clause_167
    rw [j_X12_clause_167] at e
    intro _ _
    exact e.symm
  · unfold D_X12_clause
    refine ⟨fun q9 => ?_, fun q9 => ?_⟩
    · refine ⟨fun q10 => ?_, fun q10 => ?_⟩
      · have e : j_X12_clause_37 a (f_X12_here S) S = F_X12_clause a S := by rw [F_X12_clause, if_pos q9, if_pos q10]
        exact ⟨rfl, rfl, e⟩
      · have e : j_X12_clause_25 a (f_X12_here S) S = F_X12_clause a S := by rw [F_X12_clause, if_pos q9, if_neg q10]
        exact ⟨rfl, rfl, e⟩
    · refine ⟨fun q11 => ?_, fun q11 => ?_⟩
      · have e : j_X12_clause_37 a (f_X12_here S) S = F_X12_clause a S := by rw [F_X12_clause, if_neg q9, if_pos q11]
        exact ⟨rfl, rfl, e⟩
      · have e : j_X12_clause_25 a (f_X12_here S) S = F_X12_clause a S := by rw [F_X12_clause, if_neg q9, if_neg q11]
        exact ⟨rfl, rfl, e⟩
noncomputable def D_X12_takesText_17  (H17 : Int32 → Int32 → v_Sf → Prop) (H132 : Int32 → Int32 → Int32 → v_Sf → Prop) (H227 : Int32 → Int32 → v_Sf → Prop) (K : Int32 → v_Sf → Prop) (x2 : Int32) (x3 : Int32) (S : v_Sf) : Prop := ((x3 = 0 → ((0 ≤ (S 99 5) → ((x2 = 0 → H132 (Int32.ofInt 0) (Int32.ofInt 0) (Int32.ofInt 0) S) ∧ (¬ (x2 = 0) → H132 (Int32.ofInt 16) (Int32.ofInt 240) (Int32.ofInt 0) S))) ∧ (¬ (0 ≤ (S 99 5)) → K (S 99 5) S))) ∧ (¬ (x3 = 0) → (((f_X12_isGood S) = 0 → ((0 ≤ (S 99 5) → ((x2 = 0 → H132 (Int32.ofInt 0) (Int32.ofInt 0) (Int32.ofInt 0) S) ∧ (¬ (x2 = 0) → H132 (Int32.ofInt 16) (Int32.ofInt 240) (Int32.ofInt 0) S))) ∧ (¬ (0 ≤ (S 99 5)) → K (S 99 5) S))) ∧ (¬ ((f_X12_isGood S) = 0) → (((f_X12_isGood (g_X12_clause x2 S)) = 0 → H17 x2 (Int32.ofInt 0) (g_X12_clause x2 S)) ∧ (¬ ((f_X12_isGood (g_X12_clause x2 S)) = 0) → ((((g_X12_clause x2 S) 99 4) ≤ ((g_X12_clause x2 S) 99 3) → H17 x2 (Int32.ofInt 0) (g_X12_clause x2 S)) ∧ (¬ (((g_X12_clause x2 S) 99 4) ≤ ((g_X12_clause x2 S) 99 3)) → (((f_X12_here (g_X12_clause x2 S)) = (Int32.ofInt 59) → H17 x2 (Int32.ofInt 1) (z_s (g_X12_clause x2 S) 99 3 (((g_X12_clause x2 S) 99 3) + (Int32.ofInt 1)))) ∧ (¬ ((f_X12_here (g_X12_clause x2 S)) = (Int32.ofInt 59)) → H17 x2 (Int32.ofInt 1) (z_s (g_X12_wrongs (Int32.ofInt 1) ((g_X12_clause x2 S) 99 3) (g_X12_clause x2 S)) 99 3 (((g_X12_wrongs (Int32.ofInt 1) ((g_X12_clause x2 S) 99 3) (g_X12_clause x2 S)) 99 3) + (Int32.ofInt 1)))))))))))))
noncomputable def D_X12_takesText_132  (H17 : Int32 → Int32 → v_Sf → Prop) (H132 : Int32 → Int32 → Int32 → v_Sf → Prop) (H227 : Int32 → Int32 → v_Sf → Prop) (K : Int32 → v_Sf → Prop) (x4 : Int32) (x5 : Int32) (x6 : Int32) (S : v_Sf) : Prop := (((S 99 6) ≤ x6 → H227 x5 (Int32.ofInt 0) S) ∧ (¬ ((S 99 6) ≤ x6) → (0 ≤ x6.toInt → x6.toInt < 16 → (0 ≤ (x4 + x6).toInt → (x4 + x6).toInt < 28 → (0 ≤ x6.toInt → x6.toInt < 16 → (0 ≤ (x4 + x6).toInt → (x4 + x6).toInt < 28 → (0 ≤ x6.toInt → x6.toInt < 16 → (0 ≤ (x4 + x6).toInt → (x4 + x6).toInt < 28 → (0 ≤ x6.toInt → x6.toInt < 16 → (0 ≤ (x4 + x6).toInt → (x4 + x6).toInt < 28 → H132 x4 x5 (x6 + (Int32.ofInt 1)) (z_s (z_s (z_s (z_s S 101 ((x4 + x6).toInt.toNat) (S 107 x6.toInt.toNat)) 102 ((x4 + x6).toInt.toNat) (x5 + (S 108 x6.toInt.toNat))) 103 ((x4 + x6).toInt.toNat) (x5 + (S 109 x6.toInt.toNat))) 104 ((x4 + x6).toInt.toNat) (x5 + (S 110 x6.toInt.toNat)))))))))))))
noncomputable def D_X12_takesText_227  (H17 : Int32 → Int32 → v_Sf → Prop) (H132 : Int32 → Int32 → Int32 → v_Sf → Prop) (H227 : Int32 → Int32 → v_Sf → Prop) (K : Int32 → v_Sf → Prop) (x5 : Int32) (x6 : Int32) (S : v_Sf) : Prop := (((S 99 7) ≤ x6 → K (S 99 6) S) ∧ (¬ ((S 99 7) ≤ x6) → (0 ≤ x6.toInt → x6.toInt < 240 → (0 ≤ (x5 + x6).toInt → (x5 + x6).toInt < 480 → (0 ≤ x6.toInt → x6.toInt < 240 → (0 ≤ (x5 + x6).toInt → (x5 + x6).toInt < 480 → H227 x5 (x6 + (Int32.ofInt 1)) (z_s (z_s S 105 ((x5 + x6).toInt.toNat) (S 111 x6.toInt.toNat)) 106 ((x5 + x6).toInt.toNat) (S 112 x6.toInt.toNat))))))))
noncomputable def D_X12_takesText (a : Int32) (b : Int32) (H17 : Int32 → Int32 → v_Sf → Prop) (H132 : Int32 → Int32 → Int32 → v_Sf → Prop) (H227 : Int32 → Int32 → v_Sf → Prop) (K : Int32 → v_Sf → Prop) (S : v_Sf) : Prop := H17 b (Int32.ofInt 1) (z_s (z_s (g_X12_begins a S) 99 6 (Int32.ofInt 0)) 99 7 (Int32.ofInt 0))
set_option maxRecDepth 4000 in
theorem hd_X12_takesText (L : Nat) (xs : Nat → Int32) {R : v_Rf} (a : Int32) (b : Int32) (H17 : Int32 → Int32 → v_Sf → Prop) (H132 : Int32 → Int32 → Int32 → v_Sf → Prop) (H227 : Int32 → Int32 → v_Sf → Prop) (K : Int32 → v_Sf → Prop) (k17 : ∀ (x2 : Int32) (x3 : Int32) (S : v_Sf), H17 x2 x3 S → D_X12_takesText_17 H17 H132 H227 K x2 x3 S) (k132 : ∀ (x4 : Int32) (x5 : Int32) (x6 : Int32) (S : v_Sf), H132 x4 x5 x6 S → D_X12_takesText_132 H17 H132 H227 K x4 x5 x6 S) (k227 : ∀ (x5 : Int32) (x6 : Int32) (S : v_Sf), H227 x5 x6 S → D_X12_takesText_227 H17 H132 H227 K x5 x6 S) : ∀ n, (∀ (d : Nat) (j1 : Int32) (x2 : Int32) (x3 : Int32) (S : v_Sf), H17 x2 x3 S → u_P L xs n d m_X12_takesText 17 [(0, .ref 100), (1, .int j1), (2, .int x2), (3, .int x3)] [] S R (z_Q R K)) ∧ (∀ (d : Nat) (j1 : Int32) (j2 : Int32) (j3 : Int32) (x4 : Int32) (x5 : Int32) (x6 : Int32) (S : v_Sf), H132 x4 x5 x6 S → u_P L xs n d m_X12_takesText 132 [(0, .ref 100), (1, .int j1), (2, .int j2), (3, .int j3), (4, .int x4), (5, .int x5), (6, .int x6)] [] S R (z_Q R K)) ∧ (∀ (d : Nat) (j1 : Int32) (j2 : Int32) (j3 : Int32) (j4 : Int32) (x5 : Int32) (x6 : Int32) (S : v_Sf), H227 x5 x6 S → u_P L xs n d m_X12_takesText 227 [(0, .ref 100), (1, .int j1), (2, .int j2), (3, .int j3), (4, .int j4), (5, .int x5), (6, .int x6)] [] S R (z_Q R K)) := by
  intro n
  induction n using Nat.strongRecOn with
  | ind n ih =>
    refine ⟨?_, ?_, ?_⟩
    · intro d j1 x2 x3 S hD
      have hD := k17 x2 x3 S hD
      unfold D_X12_takesText_17 at hD
      show u_P L xs n d m_X12_takesText 17 [(0, .ref 100), (1, .int j1), (2, .int x2), (3, .int x3)] [] S R _
      refine u_st1 rfl (fun _ => rfl) (fun m hm => ?_)
      show u_P L xs m d m_X12_takesText 18 [(0, .ref 100), (1, .int j1), (2, .int x2), (3, .int x3)] [.int x3] S R _
      refine u_if_eq rfl (fun h1 => ?_) (fun h1 => ?_)
      · have hD := hD.1 h1
        show u_P L xs m d m_X12_takesText 92 [(0, .ref 100), (1, .int j1), (2, .int x2), (3, .int x3)] [] S R _
        refine u_st rfl (fun _ => rfl) ?_
        show u_P L xs m d m_X12_takesText 93 [(0, .ref 100), (1, .int j1), (2, .int x2), (3, .int x3)] [.ref 100] S R _
        refine u_getE (v := S 99 5) rfl v_tyM rfl rfl ?_
        show u_P L xs m d m_X12_takesText 96 [(0, .ref 100), (1, .int j1), (2, .int x2), (3, .int x3)] [.int (S 99 5)] S R _
        refine u_if_ge rfl (fun h2 => ?_) (fun h2 => ?_)
        · have hD := hD.1 h2
          show u_P L xs m d m_X12_takesText 104 [(0, .ref 100), (1, .int j1), (2, .int x2), (3, .int x3)] [] S R _
          refine u_st rfl (fun _ => rfl) ?_
          show u_P L xs m d m_X12_takesText 105 [(0, .ref 100), (1, .int j1), (2, .int x2), (3, .int x3)] [.int x2] S R _
          refine u_if_eq rfl (fun h3 => ?_) (fun h3 => ?_)
          · have hD := hD.1 h3
            show u_P L xs m d m_X12_takesText 113 [(0, .ref 100), (1, .int j1), (2, .int x2), (3, .int x3)] [] S R _
            refine u_st rfl (fun _ => rfl) ?_
            refine u_st rfl (fun _ => rfl) ?_
            refine u_st rfl (fun _ => rfl) ?_
            show u_P L xs m d m_X12_takesText 117 [(4, .int (Int32.ofInt 0)), (0, .ref 100), (1, .int j1), (2, .int x2), (3, .int x3)] [.int x2] S R _
            refine u_if_eq rfl (fun _ => ?_) (fun h4 => absurd h3 h4)
            show u_P L xs m d m_X12_takesText 126 [(4, .int (Int32.ofInt 0)), (0, .ref 100), (1, .int j1), (2, .int x2), (3, .int x3)] [] S R _
            refine u_st rfl (fun _ => rfl) ?_
            refine u_st rfl (fun _ => rfl) ?_
            refine u_st rfl (fun _ => rfl) ?_
            refine u_st rfl (fun _ => rfl) ?_
            refine u_lc (b := [(0, .ref 100), (1, .int j1), (2, .int x2), (3, .int x3), (4, .int (Int32.ofInt 0)), (5, .int (Int32.ofInt 0)), (6, .int (Int32.ofInt 0))]) (show ([6, 5, 4, 0, 1, 2, 3] : List Nat).Nodup by decide) (show ([0, 1, 2, 3, 4, 5, 6] : List Nat).Nodup by decide) (fun i => match i with | 0 => rfl | 1 => rfl | 2 => rfl | 3 => rfl | 4 => rfl | 5 => rfl | 6 => rfl | _ + 7 => rfl) ?_
            exact (ih m hm).2.1 d j1 x2 x3 (Int32.ofInt 0) (Int32.ofInt 0) (Int32.ofInt 0) S hD
          · have hD := hD.2 h3
            show u_P L xs m d m_X12_takesText 108 [(0, .ref 100), (1, .int j1), (2, .int x2), (3, .int x3)] [] S R _
            refine u_st rfl (fun _ => rfl) ?_
            refine u_st rfl (fun _ => rfl) ?_
            refine u_st rfl (fun _ => rfl) ?_
            refine u_st rfl (fun _ => rfl) ?_
            show u_P L xs m d m_X12_takesText 117 [(4, .int (Int32.ofInt 16)), (0, .ref 100), (1, .int j1), (2, .int x2), (3, .int x3)] [.int x2] S R _
            refine u_if_eq rfl (fun h5 => absurd h5 h3) (fun _ => ?_)
            show u_P L xs m d m_X12_takesText 120 [(4, .int (Int32.ofInt 16)), (0, .ref 100), (1, .int j1), (2, .int x2), (3, .int x3)] [] S R _
            refine u_st rfl (fun _ => rfl) ?_
            refine u_st rfl (fun _ => rfl) ?_
            refine u_st rfl (fun _ => rfl) ?_
            refine u_st rfl (fun _ => rfl) ?_
            refine u_st rfl (fun _ => rfl) ?_
            refine u_lc (b := [(0, .ref 100), (1, .int j1), (2, .int x2), (3, .int x3), (4, .int (Int32.ofInt 16)), (5, .int (Int32.ofInt 240)), (6, .int (Int32.ofInt 0))]) (show ([6, 5, 4, 0, 1, 2, 3] : List Nat).Nodup by decide) (show ([0, 1, 2, 3, 4, 5, 6] : List Nat).Nodup by decide) (fun i => match i with | 0 => rfl | 1 => rfl | 2 => rfl | 3 => rfl | 4 => rfl | 5 => rfl | 6 => rfl | _ + 7 => rfl) ?_
            exact (ih m hm).2.1 d j1 x2 x3 (Int32.ofInt 16) (Int32.ofInt 240) (Int32.ofInt 0) S hD
        · have hD := hD.2 h2
          show u_P L xs m d m_X12_takesText 99 [(0, .ref 100), (1, .int j1), (2, .int x2), (3, .int x3)] [] S R _
          refine u_st rfl (fun _ => rfl) ?_
          show u_P L xs m d m_X12_takesText 100 [(0, .ref 100), (1, .int j1), (2, .int x2), (3, .int x3)] [.ref 100] S R _
          refine u_getE (v := S 99 5) rfl v_tyM rfl rfl ?_
          show u_P L xs m d m_X12_takesText 103 [(0, .ref 100), (1, .int j1), (2, .int x2), (3, .int x3)] [.int (S 99 5)] S R _
          exact u_ret rfl rfl ⟨_, rfl, rfl, hD⟩
      · have hD := hD.2 h1
        show u_P L xs m d m_X12_takesText 21 [(0, .ref 100), (1, .int j1), (2, .int x2), (3, .int x3)] [] S R _
        refine u_st rfl (fun _ => rfl) ?_
        show u_P L xs m d m_X12_takesText 22 [(0, .ref 100), (1, .int j1), (2, .int x2), (3, .int x3)] [.ref 100] S R _
        refine u_cv (rest := []) rfl (by decide) mt_X12_isGood v_tyM rfl rfl rfl (Nat.le_of_ble_eq_true rfl) (Nat.le_of_ble_eq_true rfl) (Nat.le_of_ble_eq_true rfl) (fun d' => c_X12_isGood L xs m d' S R) ?_
        rintro _ _ _ ⟨_, rfl, rfl, rfl, rfl⟩
        show u_P L xs m d m_X12_takesText 25 [(0, .ref 100), (1, .int j1), (2, .int x2), (3, .int x3)] [.int (f_X12_isGood S)] S R _
        refine u_if_eq rfl (fun h6 => ?_) (fun h6 => ?_)
        · have hD := hD.1 h6
          show u_P L xs m d m_X12_takesText 92 [(0, .ref 100), (1, .int j1), (2, .int x2), (3, .int x3)] [] S R _
          refine u_st rfl (fun _ => rfl) ?_
          show u_P L xs m d m_X12_takesText 93 [(0, .ref 100), (1, .int j1), (2, .int x2), (3, .int x3)] [.ref 100] S R _
          refine u_getE (v := S 99 5) rfl v_tyM rfl rfl ?_
          show u_P L xs m d m_X12_takesText 96 [(0, .ref 100), (1, .int j1), (2, .int x2), (3, .int x3)] [.int (S 99 5)] S R _
          refine u_if_ge rfl (fun h7 => ?_) (fun h7 => ?_)
          · have hD := hD.1 h7
            show u_P L xs m d m_X12_takesText 104 [(0, .ref 100), (1, .int j1), (2, .int x2), (3, .int x3)] [] S R _
            refine u_st rfl (fun _ => rfl) ?_
            show u_P L xs m d m_X12_takesText 105 [(0, .ref 100), (1, .int j1), (2, .int x2), (3, .int x3)] [.int x2] S R _
            refine u_if_eq rfl (fun h8 => ?_) (fun h8 => ?_)
            · have hD := hD.1 h8
              show u_P L xs m d m_X12_takesText 113 [(0, .ref 100), (1, .int j1), (2, .int x2), (3, .int x3)] [] S R _
              refine u_st rfl (fun _ => rfl) ?_
              refine u_st rfl (fun _ => rfl) ?_
              refine u_st rfl (fun _ => rfl) ?_
              show u_P L xs m d m_X12_takesText 117 [(4, .int (Int32.ofInt 0)), (0, .ref 100), (1, .int j1), (2, .int x2), (3, .int x3)] [.int x2] S R _
              refine u_if_eq rfl (fun _ => ?_) (fun h9 => absurd h8 h9)
              show u_P L xs m d m_X12_takesText 126 [(4, .int (Int32.ofInt 0)), (0, .ref 100), (1, .int j1), (2, .int x2), (3, .int x3)] [] S R _
              refine u_st rfl (fun _ => rfl) ?_
              refine u_st rfl (fun _ => rfl) ?_
              refine u_st rfl (fun _ => rfl) ?_
              refine u_st rfl (fun _ => rfl) ?_
              refine u_lc (b := [(0, .ref 100), (1, .int j1), (2, .int x2), (3, .int x3), (4, .int (Int32.ofInt 0)), (5, .int (Int32.ofInt 0)), (6, .int (Int32.ofInt 0))]) (show ([6, 5, 4, 0, 1, 2, 3] : List Nat).Nodup by decide) (show ([0, 1, 2, 3, 4, 5, 6] : List Nat).Nodup by decide) (fun i => match i with | 0 => rfl | 1 => rfl | 2 => rfl | 3 => rfl | 4 => rfl | 5 => rfl | 6 => rfl | _ + 7 => rfl) ?_
              exact (ih m hm).2.1 d j1 x2 x3 (Int32.ofInt 0) (Int32.ofInt 0) (Int32.ofInt 0) S hD
            · have hD := hD.2 h8
              show u_P L xs m d m_X12_takesText 108 [(0, .ref 100), (1, .int j1), (2, .int x2), (3, .int x3)] [] S R _
              refine u_st rfl (fun _ => rfl) ?_
              refine u_st rfl (fun _ => rfl) ?_
              refine u_st rfl (fun _ => rfl) ?_
              refine u_st rfl (fun _ => rfl) ?_
              show u_P L xs m d m_X12_takesText 117 [(4, .int (Int32.ofInt 16)), (0, .ref 100), (1, .int j1), (2, .int x2), (3, .int x3)] [.int x2] S R _
              refine u_if_eq rfl (fun h10 => absurd h10 h8) (fun _ => ?_)
              show u_P L xs m d m_X12_takesText 120 [(4, .int (Int32.ofInt 16)), (0, .ref 100), (1, .int j1), (2, .int x2), (3, .int x3)] [] S R _
              refine u_st rfl (fun _ => rfl) ?_
              refine u_st rfl (fun _ => rfl) ?_
              refine u_st rfl (fun _ => rfl) ?_
              refine u_st rfl (fun _ => rfl) ?_
              refine u_st rfl (fun _ => rfl) ?_
              refine u_lc (b := [(0, .ref 100), (1, .int j1), (2, .int x2), (3, .int x3), (4, .int (Int32.ofInt 16)), (5, .int (Int32.ofInt 240)), (6, .int (Int32.ofInt 0))]) (show ([6, 5, 4, 0, 1, 2, 3] : List Nat).Nodup by decide) (show ([0, 1, 2, 3, 4, 5, 6] : List Nat).Nodup by decide) (fun i => match i with | 0 => rfl | 1 => rfl | 2 => rfl | 3 => rfl | 4 => rfl | 5 => rfl | 6 => rfl | _ + 7 => rfl) ?_
              exact (ih m hm).2.1 d j1 x2 x3 (Int32.ofInt 16) (Int32.ofInt 240) (Int32.ofInt 0) S hD
          · have hD := hD.2 h7
            show u_P L xs m d m_X12_takesText 99 [(0, .ref 100), (1, .int j1), (2, .int x2), (3, .int x3)] [] S R _
            refine u_st rfl (fun _ => rfl) ?_
            show u_P L xs m d m_X12_takesText 100 [(0, .ref 100), (1, .int j1), (2, .int x2), (3, .int x3)] [.ref 100] S R _
            refine u_getE (v := S 99 5) rfl v_tyM rfl rfl ?_
            show u_P L xs m d m_X12_takesText 103 [(0, .ref 100), (1, .int j1), (2, .int x2), (3, .int x3)] [.int (S 99 5)] S R _
            exact u_ret rfl rfl ⟨_, rfl, rfl, hD⟩
        · have hD := hD.2 h6
          show u_P L xs m d m_X12_takesText 28 [(0, .ref 100), (1, .int j1), (2, .int x2), (3, .int x3)] [] S R _
          refine u_st rfl (fun _ => rfl) ?_
          refine u_st rfl (fun _ => rfl) ?_
          show u_P L xs m d m_X12_takesText 30 [(0, .ref 100), (1, .int j1), (2, .int x2), (3, .int x3)] [.int x2, .ref 100] S R _
          refine u_cv (rest := []) rfl (by decide) mt_X12_clause v_tyM rfl rfl rfl (Nat.le_of_ble_eq_true rfl) (Nat.le_of_ble_eq_true rfl) (Nat.le_of_ble_eq_true rfl) (fun d' => c_X12_clause L xs m d' x2 S R) ?_
          rintro _ _ _ ⟨rfl, rfl, rfl⟩
          refine u_st rfl (fun _ => rfl) ?_
          show u_P L xs m d m_X12_takesText 34 [(0, .ref 100), (1, .int j1), (2, .int x2), (3, .int x3)] [.ref 100] (g_X12_clause x2 S) R _
          refine u_cv (rest := []) rfl (by decide) mt_X12_isGood v_tyM rfl rfl rfl (Nat.le_of_ble_eq_true rfl) (Nat.le_of_ble_eq_true rfl) (Nat.le_of_ble_eq_true rfl) (fun d' => c_X12_isGood L xs m d' (g_X12_clause x2 S) R) ?_
          rintro _ _ _ ⟨_, rfl, rfl, rfl, rfl⟩
          show u_P L xs m d m_X12_takesText 37 [(0, .ref 100), (1, .int j1), (2, .int x2), (3, .int x3)] [.int (f_X12_isGood (g_X12_clause x2 S))] (g_X12_clause x2 S) R _
          refine u_if_eq rfl (fun h11 => ?_) (fun h11 => ?_)
          · have hD := hD.1 h11
            show u_P L xs m d m_X12_takesText 55 [(0, .ref 100), (1, .int j1), (2, .int x2), (3, .int x3)] [] (g_X12_clause x2 S) R _
            refine u_st rfl (fun _ => rfl) ?_
            refine u_st rfl (fun _ => rfl) ?_
            refine u_st rfl (fun _ => rfl) ?_
            show u_P L xs m d m_X12_takesText 58 [(3, .int (Int32.ofInt 0)), (0, .ref 100), (1, .int j1), (2, .int x2)] [.int (Int32.ofInt 0)] (g_X12_clause x2 S) R _
            refine u_st rfl (fun _ => rfl) ?_
            refine u_lc (b := [(0, .ref 100), (1, .int j1), (2, .int x2), (3, .int (Int32.ofInt 0))]) (show ([3, 0, 1, 2] : List Nat).Nodup by decide) (show ([0, 1, 2, 3] : List Nat).Nodup by decide) (fun i => match i with | 0 => rfl | 1 => rfl | 2 => rfl | 3 => rfl | _ + 4 => rfl) ?_
            exact (ih m hm).1 d j1 x2 (Int32.ofInt 0) (g_X12_clause x2 S) hD
          · have hD := hD.2 h11
            show u_P L xs m d m_X12_takesText 40 [(0, .ref 100), (1, .int j1), (2, .int x2), (3, .int x3)] [] (g_X12_clause x2 S) R _
            refine u_st rfl (fun _ => rfl) ?_
            show u_P L xs m d m_X12_takesText 41 [(0, .ref 100), (1, .int j1), (2, .int x2), (3, .int x3)] [.ref 100] (g_X12_clause x2 S) R _
            refine u_getE (v := (g_X12_clause x2 S) 99 3) rfl v_tyM rfl rfl ?_
            refine u_st rfl (fun _ => rfl) ?_
            show u_P L xs m d m_X12_takesText 45 [(0, .ref 100), (1, .int j1), (2, .int x2), (3, .int x3)] [.ref 100, .int ((g_X12_clause x2 S) 99 3)] (g_X12_clause x2 S) R _
            refine u_getE (v := (g_X12_clause x2 S) 99 4) rfl v_tyM rfl rfl ?_
            show u_P L xs m d m_X12_takesText 48 [(0, .ref 100), (1, .int j1), (2, .int x2), (3, .int x3)] [.int ((g_X12_clause x2 S) 99 4), .int ((g_X12_clause x2 S) 99 3)] (g_X12_clause x2 S) R _
            refine u_ic_ge rfl (fun h12 => ?_) (fun h12 => ?_)
            · have hD := hD.1 h12
              show u_P L xs m d m_X12_takesText 55 [(0, .ref 100), (1, .int j1), (2, .int x2), (3, .int x3)] [] (g_X12_clause x2 S) R _
              refine u_st rfl (fun _ => rfl) ?_
              refine u_st rfl (fun _ => rfl) ?_
              refine u_st rfl (fun _ => rfl) ?_
              show u_P L xs m d m_X12_takesText 58 [(3, .int (Int32.ofInt 0)), (0, .ref 100), (1, .int j1), (2, .int x2)] [.int (Int32.ofInt 0)] (g_X12_clause x2 S) R _
              refine u_st rfl (fun _ => rfl) ?_
              refine u_lc (b := [(0, .ref 100), (1, .int j1), (2, .int x2), (3, .int (Int32.ofInt 0))]) (show ([3, 0, 1, 2] : List Nat).Nodup by decide) (show ([0, 1, 2, 3] : List Nat).Nodup by decide) (fun i => match i with | 0 => rfl | 1 => rfl | 2 => rfl | 3 => rfl | _ + 4 => rfl) ?_
              exact (ih m hm).1 d j1 x2 (Int32.ofInt 0) (g_X12_clause x2 S) hD
            · have hD := hD.2 h12
              show u_P L xs m d m_X12_takesText 51 [(0, .ref 100), (1, .int j1), (2, .int x2), (3, .int x3)] [] (g_X12_clause x2 S) R _
              refine u_st rfl (fun _ => rfl) ?_
              refine u_st rfl (fun _ => rfl) ?_
              refine u_st rfl (fun _ => rfl) ?_
              refine u_st rfl (fun _ => rfl) ?_
              show u_P L xs m d m_X12_takesText 58 [(3, .int (Int32.ofInt 1)), (0, .ref 100), (1, .int j1), (2, .int x2)] [.int (Int32.ofInt 1)] (g_X12_clause x2 S) R _
              refine u_st rfl (fun _ => rfl) ?_
              refine u_st rfl (fun _ => rfl) ?_
              show u_P L xs m d m_X12_takesText 62 [(3, .int (Int32.ofInt 1)), (0, .ref 100), (1, .int j1), (2, .int x2)] [.ref 100] (g_X12_clause x2 S) R _
              refine u_cv (rest := []) rfl (by decide) mt_X12_here v_tyM rfl rfl rfl (Nat.le_of_ble_eq_true rfl) (Nat.le_of_ble_eq_true rfl) (Nat.le_of_ble_eq_true rfl) (fun d' => c_X12_here L xs m d' (g_X12_clause x2 S) R) ?_
              rintro _ _ _ ⟨_, rfl, rfl, rfl, rfl⟩
              refine u_st rfl (fun _ => rfl) ?_
              show u_P L xs m d m_X12_takesText 67 [(3, .int (Int32.ofInt 1)), (0, .ref 100), (1, .int j1), (2, .int x2)] [.int (Int32.ofInt 59), .int (f_X12_here (g_X12_clause x2 S))] (g_X12_clause x2 S) R _
              refine u_ic_eq rfl (fun h13 => ?_) (fun h13 => ?_)
              · have hD := hD.1 h13
                show u_P L xs m d m_X12_takesText 79 [(3, .int (Int32.ofInt 1)), (0, .ref 100), (1, .int j1), (2, .int x2)] [] (g_X12_clause x2 S) R _
                refine u_st rfl (fun _ => rfl) ?_
                refine u_st rfl (fun _ => rfl) ?_
                show u_P L xs m d m_X12_takesText 81 [(3, .int (Int32.ofInt 1)), (0, .ref 100), (1, .int j1), (2, .int x2)] [.ref 100, .ref 100] (g_X12_clause x2 S) R _
                refine u_getE (v := (g_X12_clause x2 S) 99 3) rfl v_tyM rfl rfl ?_
                refine u_st rfl (fun _ => rfl) ?_
                refine u_st rfl (fun _ => rfl) ?_
                show u_P L xs m d m_X12_takesText 86 [(3, .int (Int32.ofInt 1)), (0, .ref 100), (1, .int j1), (2, .int x2)] [.int (((g_X12_clause x2 S) 99 3) + (Int32.ofInt 1)), .ref 100] (g_X12_clause x2 S) R _
                refine u_put rfl v_tyM rfl ?_
                refine u_st rfl (fun _ => rfl) ?_
                refine u_lc (b := [(0, .ref 100), (1, .int j1), (2, .int x2), (3, .int (Int32.ofInt 1))]) (show ([3, 0, 1, 2] : List Nat).Nodup by decide) (show ([0, 1, 2, 3] : List Nat).Nodup by decide) (fun i => match i with | 0 => rfl | 1 => rfl | 2 => rfl | 3 => rfl | _ + 4 => rfl) ?_
                exact (ih m hm).1 d j1 x2 (Int32.ofInt 1) (z_s (g_X12_clause x2 S) 99 3 (((g_X12_clause x2 S) 99 3) + (Int32.ofInt 1))) hD
              · have hD := hD.2 h13
                show u_P L xs m d m_X12_takesText 70 [(3, .int (Int32.ofInt 1)), (0, .ref 100), (1, .int j1), (2, .int x2)] [] (g_X12_clause x2 S) R _
                refine u_st rfl (fun _ => rfl) ?_
                refine u_st rfl (fun _ => rfl) ?_
                refine u_st rfl (fun _ => rfl) ?_
                show u_P L xs m d m_X12_takesText 73 [(3, .int (Int32.ofInt 1)), (0, .ref 100), (1, .int j1), (2, .int x2)] [.ref 100, .int (Int32.ofInt 1), .ref 100] (g_X12_clause x2 S) R _
                refine u_getE (v := (g_X12_clause x2 S) 99 3) rfl v_tyM rfl rfl ?_
                show u_P L xs m d m_X12_takesText 76 [(3, .int (Int32.ofInt 1)), (0, .ref 100), (1, .int j1), (2, .int x2)] [.int ((g_X12_clause x2 S) 99 3), .int (Int32.ofInt 1), .ref 100] (g_X12_clause x2 S) R _
                refine u_cv (rest := []) rfl (by decide) mt_X12_wrongs v_tyM rfl rfl rfl (Nat.le_of_ble_eq_true rfl) (Nat.le_of_ble_eq_true rfl) (Nat.le_of_ble_eq_true rfl) (fun d' => c_X12_wrongs L xs m d' (Int32.ofInt 1) ((g_X12_clause x2 S) 99 3) (g_X12_clause x2 S) R) ?_
                rintro _ _ _ ⟨rfl, rfl, rfl⟩
                refine u_st rfl (fun _ => rfl) ?_
                refine u_st rfl (fun _ => rfl) ?_
                show u_P L xs m d m_X12_takesText 81 [(3, .int (Int32.ofInt 1)), (0, .ref 100), (1, .int j1), (2, .int x2)] [.ref 100, .ref 100] (g_X12_wrongs (Int32.ofInt 1) ((g_X12_clause x2 S) 99 3) (g_X12_clause x2 S)) R _
                refine u_getE (v := (g_X12_wrongs (Int32.ofInt 1) ((g_X12_clause x2 S) 99 3) (g_X12_clause x2 S)) 99 3) rfl v_tyM rfl rfl ?_
                refine u_st rfl (fun _ => rfl) ?_
                refine u_st rfl (fun _ => rfl) ?_
                show u_P L xs m d m_X12_takesText 86 [(3, .int (Int32.ofInt 1)), (0, .ref 100), (1, .int j1), (2, .int x2)] [.int (((g_X12_wrongs (Int32.ofInt 1) ((g_X12_clause x2 S) 99 3) (g_X12_clause x2 S)) 99 3) + (Int32.ofInt 1)), .ref 100] (g_X12_wrongs (Int32.ofInt 1) ((g_X12_clause x2 S) 99 3) (g_X12_clause x2 S)) R _
                refine u_put rfl v_tyM rfl ?_
                refine u_st rfl (fun _ => rfl) ?_
                refine u_lc (b := [(0, .ref 100), (1, .int j1), (2, .int x2), (3, .int (Int32.ofInt 1))]) (show ([3, 0, 1, 2] : List Nat).Nodup by decide) (show ([0, 1, 2, 3] : List Nat).Nodup by decide) (fun i => match i with | 0 => rfl | 1 => rfl | 2 => rfl | 3 => rfl | _ + 4 => rfl) ?_
                exact (ih m hm).1 d j1 x2 (Int32.ofInt 1) (z_s (g_X12_wrongs (Int32.ofInt 1) ((g_X12_clause x2 S) 99 3) (g_X12_clause x2 S)) 99 3 (((g_X12_wrongs (Int32.ofInt 1) ((g_X12_clause x2 S) 99 3) (g_X12_clause x2 S)) 99 3) + (Int32.ofInt 1))) hD
    · intro d j1 j2 j3 x4 x5 x6 S hD
      have hD := k132 x4 x5 x6 S hD
      unfold D_X12_takesText_132 at hD
      show u_P L xs n d m_X12_takesText 132 [(0, .ref 100), (1, .int j1), (2, .int j2), (3, .int j3), (4, .int x4), (5, .int x5), (6, .int x6)] [] S R _
      refine u_st1 rfl (fun _ => rfl) (fun m hm => ?_)
      refine u_st rfl (fun _ => rfl) ?_
      show u_P L xs m d m_X12_takesText 135 [(0, .ref 100), (1, .int j1), (2, .int j2), (3, .int j3), (4, .int x4), (5, .int x5), (6, .int x6)] [.ref 100, .int x6] S R _
      refine u_getE (v := S 99 6) rfl v_tyM rfl rfl ?_
      show u_P L xs m d m_X12_takesText 138 [(0, .ref 100), (1, .int j1), (2, .int j2), (3, .int j3), (4, .int x4), (5, .int x5), (6, .int x6)] [.int (S 99 6), .int x6] S R _
      refine u_ic_ge rfl (fun h1 => ?_) (fun h1 => ?_)
      · have hD := hD.1 h1
        show u_P L xs m d m_X12_takesText 224 [(0, .ref 100), (1, .int j1), (2, .int j2), (3, .int j3), (4, .int x4), (5, .int x5), (6, .int x6)] [] S R _
        refine u_st rfl (fun _ => rfl) ?_
        refine u_st rfl (fun _ => rfl) ?_
        refine u_lc (b := [(0, .ref 100), (1, .int j1), (2, .int j2), (3, .int j3), (4, .int x4), (5, .int x5), (6, .int (Int32.ofInt 0))]) (show ([6, 0, 1, 2, 3, 4, 5] : List Nat).Nodup by decide) (show ([0, 1, 2, 3, 4, 5, 6] : List Nat).Nodup by decide) (fun i => match i with | 0 => rfl | 1 => rfl | 2 => rfl | 3 => rfl | 4 => rfl | 5 => rfl | 6 => rfl | _ + 7 => rfl) ?_
        exact (ih m hm).2.2 d j1 j2 j3 x4 x5 (Int32.ofInt 0) S hD
      · have hD := hD.2 h1
        show u_P L xs m d m_X12_takesText 141 [(0, .ref 100), (1, .int j1), (2, .int j2), (3, .int j3), (4, .int x4), (5, .int x5), (6, .int x6)] [] S R _
        refine u_st rfl (fun _ => rfl) ?_
        show u_P L xs m d m_X12_takesText 142 [(0, .ref 100), (1, .int j1), (2, .int j2), (3, .int j3), (4, .int x4), (5, .int x5), (6, .int x6)] [.ref 100] S R _
        refine u_getr rfl v_tyM rfl ?_
        refine u_st rfl (fun _ => rfl) ?_
        refine u_st rfl (fun _ => rfl) ?_
        refine u_st rfl (fun _ => rfl) ?_
        refine u_st rfl (fun _ => rfl) ?_
        show u_P L xs m d m_X12_takesText 151 [(0, .ref 100), (1, .int j1), (2, .int j2), (3, .int j3), (4, .int x4), (5, .int x5), (6, .int x6)] [.ref 100, .int (x4 + x6), .ref 102] S R _
        refine u_getr rfl v_tyM rfl ?_
        refine u_st rfl (fun _ => rfl) ?_
        show u_P L xs m d m_X12_takesText 156 [(0, .ref 100), (1, .int j1), (2, .int j2), (3, .int j3), (4, .int x4), (5, .int x5), (6, .int x6)] [.int x6, .ref 108, .int (x4 + x6), .ref 102] S R _
        refine u_ialdE (v := S 107 x6.toInt.toNat) rfl rfl rfl (fun b21 b22 => ?_)
        have hD := hD b21 b22
        show u_P L xs m d m_X12_takesText 157 [(0, .ref 100), (1, .int j1), (2, .int j2), (3, .int j3), (4, .int x4), (5, .int x5), (6, .int x6)] [.int (S 107 x6.toInt.toNat), .int (x4 + x6), .ref 102] S R _
        refine u_iast rfl rfl (fun b31 b32 => ?_)
        have hD := hD b31 b32
        show u_P L xs m d m_X12_takesText 158 [(0, .ref 100), (1, .int j1), (2, .int j2), (3, .int j3), (4, .int x4), (5, .int x5), (6, .int x6)] [] (z_s S 101 ((x4 + x6).toInt.toNat) (S 107 x6.toInt.toNat)) R _
        refine u_st rfl (fun _ => rfl) ?_
        show u_P L xs m d m_X12_takesText 159 [(0, .ref 100), (1, .int j1), (2, .int j2), (3, .int j3), (4, .int x4), (5, .int x5), (6, .int x6)] [.ref 100] (z_s S 101 ((x4 + x6).toInt.toNat) (S 107 x6.toInt.toNat)) R _
        refine u_getr rfl v_tyM rfl ?_
        refine u_st rfl (fun _ => rfl) ?_
        refine u_st rfl (fun _ => rfl) ?_
        refine u_st rfl (fun _ => rfl) ?_
        refine u_st rfl (fun _ => rfl) ?_
        refine u_st rfl (fun _ => rfl) ?_
        show u_P L xs m d m_X12_takesText 170 [(0, .ref 100), (1, .int j1), (2, .int j2), (3, .int j3), (4, .int x4), (5, .int x5), (6, .int x6)] [.ref 100, .int x5, .int (x4 + x6), .ref 103] (z_s S 101 ((x4 + x6).toInt.toNat) (S 107 x6.toInt.toNat)) R _
        refine u_getr rfl v_tyM rfl ?_
        refine u_st rfl (fun _ => rfl) ?_
        show u_P L xs m d m_X12_takesText 175 [(0, .ref 100), (1, .int j1), (2, .int j2), (3, .int j3), (4, .int x4), (5, .int x5), (6, .int x6)] [.int x6, .ref 109, .int x5, .int (x4 + x6), .ref 103] (z_s S 101 ((x4 + x6).toInt.toNat) (S 107 x6.toInt.toNat)) R _
        refine u_ialdE (v := S 108 x6.toInt.toNat) rfl rfl (z_sn (fun h => absurd h.1 (by decide))) (fun b41 b42 => ?_)
        have hD := hD b41 b42
        show u_P L xs m d m_X12_takesText 176 [(0, .ref 100), (1, .int j1), (2, .int j2), (3, .int j3), (4, .int x4), (5, .int x5), (6, .int x6)] [.int (S 108 x6.toInt.toNat), .int x5, .int (x4 + x6), .ref 103] (z_s S 101 ((x4 + x6).toInt.toNat) (S 107 x6.toInt.toNat)) R _
        refine u_st rfl (fun _ => rfl) ?_
        show u_P L xs m d m_X12_takesText 177 [(0, .ref 100), (1, .int j1), (2, .int j2), (3, .int j3), (4, .int x4), (5, .int x5), (6, .int x6)] [.int (x5 + (S 108 x6.toInt.toNat)), .int (x4 + x6), .ref 103] (z_s S 101 ((x4 + x6).toInt.toNat) (S 107 x6.toInt.toNat)) R _
        refine u_iast rfl rfl (fun b51 b52 => ?_)
        have hD := hD b51 b52
        show u_P L xs m d m_X12_takesText 178 [(0, .ref 100), (1, .int j1), (2, .int j2), (3, .int j3), (4, .int x4), (5, .int x5), (6, .int x6)] [] (z_s (z_s S 101 ((x4 + x6).toInt.toNat) (S 107 x6.toInt.toNat)) 102 ((x4 + x6).toInt.toNat) (x5 + (S 108 x6.toInt.toNat))) R _
        refine u_st rfl (fun _ => rfl) ?_
        show u_P L xs m d m_X12_takesText 179 [(0, .ref 100), (1, .int j1), (2, .int j2), (3, .int j3), (4, .int x4), (5, .int x5), (6, .int x6)] [.ref 100] (z_s (z_s S 101 ((x4 + x6).toInt.toNat) (S 107 x6.toInt.toNat)) 102 ((x4 + x6).toInt.toNat) (x5 + (S 108 x6.toInt.toNat))) R _
        refine u_getr rfl v_tyM rfl ?_
        refine u_st rfl (fun _ => rfl) ?_
        refine u_st rfl (fun _ => rfl) ?_
        refine u_st rfl (fun _ => rfl) ?_
        refine u_st rfl (fun _ => rfl) ?_
        refine u_st rfl (fun _ => rfl) ?_
        show u_P L xs m d m_X12_takesText 190 [(0, .ref 100), (1, .int j1), (2, .int j2), (3, .int j3), (4, .int x4), (5, .int x5), (6, .int x6)] [.ref 100, .int x5, .int (x4 + x6), .ref 104] (z_s (z_s S 101 ((x4 + x6).toInt.toNat) (S 107 x6.toInt.toNat)) 102 ((x4 + x6).toInt.toNat) (x5 + (S 108 x6.toInt.toNat))) R _
        refine u_getr rfl v_tyM rfl ?_
        refine u_st rfl (fun _ => rfl) ?_
        show u_P L xs m d m_X12_takesText 195 [(0, .ref 100), (1, .int j1), (2, .int j2), (3, .int j3), (4, .int x4), (5, .int x5), (6, .int x6)] [.int x6, .ref 110, .int x5, .int (x4 + x6), .ref 104] (z_s (z_s S 101 ((x4 + x6).toInt.toNat) (S 107 x6.toInt.toNat)) 102 ((x4 + x6).toInt.toNat) (x5 + (S 108 x6.toInt.toNat))) R _
        refine u_ialdE (v := S 109 x6.toInt.toNat) rfl rfl ((z_sn (fun h => absurd h.1 (by decide))).trans (z_sn (fun h => absurd h.1 (by decide)))) (fun b61 b62 => ?_)
        have hD := hD b61 b62
        show u_P L xs m d m_X12_takesText 196 [(0, .ref 100), (1, .int j1), (2, .int j2), (3, .int j3), (4, .int x4), (5, .int x5), (6, .int x6)] [.int (S 109 x6.toInt.toNat), .int x5, .int (x4 + x6), .ref 104] (z_s (z_s S 101 ((x4 + x6).toInt.toNat) (S 107 x6.toInt.toNat)) 102 ((x4 + x6).toInt.toNat) (x5 + (S 108 x6.toInt.toNat))) R _
        refine u_st rfl (fun _ => rfl) ?_
        show u_P L xs m d m_X12_takesText 197 [(0, .ref 100), (1, .int j1), (2, .int j2), (3, .int j3), (4, .int x4), (5, .int x5), (6, .int x6)] [.int (x5 + (S 109 x6.toInt.toNat)), .int (x4 + x6), .ref 104] (z_s (z_s S 101 ((x4 + x6).toInt.toNat) (S 107 x6.toInt.toNat)) 102 ((x4 + x6).toInt.toNat) (x5 + (S 108 x6.toInt.toNat))) R _
        refine u_iast rfl rfl (fun b71 b72 => ?_)
        have hD := hD b71 b72
        show u_P L xs m d m_X12_takesText 198 [(0, .ref 100), (1, .int j1), (2, .int j2), (3, .int j3), (4, .int x4), (5, .int x5), (6, .int x6)] [] (z_s (z_s (z_s S 101 ((x4 + x6).toInt.toNat) (S 107 x6.toInt.toNat)) 102 ((x4 + x6).toInt.toNat) (x5 + (S 108 x6.toInt.toNat))) 103 ((x4 + x6).toInt.toNat) (x5 + (S 109 x6.toInt.toNat))) R _
        refine u_st rfl (fun _ => rfl) ?_
        show u_P L xs m d m_X12_takesText 199 [(0, .ref 100), (1, .int j1), (2, .int j2), (3, .int j3), (4, .int x4), (5, .int x5), (6, .int x6)] [.ref 100] (z_s (z_s (z_s S 101 ((x4 + x6).toInt.toNat) (S 107 x6.toInt.toNat)) 102 ((x4 + x6).toInt.toNat) (x5 + (S 108 x6.toInt.toNat))) 103 ((x4 + x6).toInt.toNat) (x5 + (S 109 x6.toInt.toNat))) R _
        refine u_getr rfl v_tyM rfl ?_
        refine u_st rfl (fun _ => rfl) ?_
        refine u_st rfl (fun _ => rfl) ?_
        refine u_st rfl (fun _ => rfl) ?_
        refine u_st rfl (fun _ => rfl) ?_
        refine u_st rfl (fun _ => rfl) ?_
        show u_P L xs m d m_X12_takesText 210 [(0, .ref 100), (1, .int j1), (2, .int j2), (3, .int j3), (4, .int x4), (5, .int x5), (6, .int x6)] [.ref 100, .int x5, .int (x4 + x6), .ref 105] (z_s (z_s (z_s S 101 ((x4 + x6).toInt.toNat) (S 107 x6.toInt.toNat)) 102 ((x4 + x6).toInt.toNat) (x5 + (S 108 x6.toInt.toNat))) 103 ((x4 + x6).toInt.toNat) (x5 + (S 109 x6.toInt.toNat))) R _
        refine u_getr rfl v_tyM rfl ?_
        refine u_st rfl (fun _ => rfl) ?_
        show u_P L xs m d m_X12_takesText 215 [(0, .ref 100), (1, .int j1), (2, .int j2), (3, .int j3), (4, .int x4), (5, .int x5), (6, .int x6)] [.int x6, .ref 111, .int x5, .int (x4 + x6), .ref 105] (z_s (z_s (z_s S 101 ((x4 + x6).toInt.toNat) (S 107 x6.toInt.toNat)) 102 ((x4 + x6).toInt.toNat) (x5 + (S 108 x6.toInt.toNat))) 103 ((x4 + x6).toInt.toNat) (x5 + (S 109 x6.toInt.toNat))) R _
        refine u_ialdE (v := S 110 x6.toInt.toNat) rfl rfl ((z_sn (fun h => absurd h.1 (by decide))).trans ((z_sn (fun h => absurd h.1 (by decide))).trans (z_sn (fun h => absurd h.1 (by decide))))) (fun b81 b82 => ?_)
        have hD := hD b81 b82
        show u_P L xs m d m_X12_takesText 216 [(0, .ref 100), (1, .int j1), (2, .int j2), (3, .int j3), (4, .int x4), (5, .int x5), (6, .int x6)] [.int (S 110 x6.toInt.toNat), .int x5, .int (x4 + x6), .ref 105] (z_s (z_s (z_s S 101 ((x4 + x6).toInt.toNat) (S 107 x6.toInt.toNat)) 102 ((x4 + x6).toInt.toNat) (x5 + (S 108 x6.toInt.toNat))) 103 ((x4 + x6).toInt.toNat) (x5 + (S 109 x6.toInt.toNat))) R _
        refine u_st rfl (fun _ => rfl) ?_
        show u_P L xs m d m_X12_takesText 217 [(0, .ref 100), (1, .int j1), (2, .int j2), (3, .int j3), (4, .int x4), (5, .int x5), (6, .int x6)] [.int (x5 + (S 110 x6.toInt.toNat)), .int (x4 + x6), .ref 105] (z_s (z_s (z_s S 101 ((x4 + x6).toInt.toNat) (S 107 x6.toInt.toNat)) 102 ((x4 + x6).toInt.toNat) (x5 + (S 108 x6.toInt.toNat))) 103 ((x4 + x6).toInt.toNat) (x5 + (S 109 x6.toInt.toNat))) R _
        refine u_iast rfl rfl (fun b91 b92 => ?_)
        have hD := hD b91 b92
        show u_P L xs m d m_X12_takesText 218 [(0, .ref 100), (1, .int j1), (2, .int j2), (3, .int j3), (4, .int x4), (5, .int x5), (6, .int x6)] [] (z_s (z_s (z_s (z_s S 101 ((x4 + x6).toInt.toNat) (S 107 x6.toInt.toNat)) 102 ((x4 + x6).toInt.toNat) (x5 + (S 108 x6.toInt.toNat))) 103 ((x4 + x6).toInt.toNat) (x5 + (S 109 x6.toInt.toNat))) 104 ((x4 + x6).toInt.toNat) (x5 + (S 110 x6.toInt.toNat))) R _
        refine u_st rfl (fun _ => rfl) ?_
        refine u_st rfl (fun _ => rfl) ?_
        refine u_lc (b := [(0, .ref 100), (1, .int j1), (2, .int j2), (3, .int j3), (4, .int x4), (5, .int x5), (6, .int (x6 + (Int32.ofInt 1)))]) (show ([6, 0, 1, 2, 3, 4, 5] : List Nat).Nodup by decide) (show ([0, 1, 2, 3, 4, 5, 6] : List Nat).Nodup by decide) (fun i => match i with | 0 => rfl | 1 => rfl | 2 => rfl | 3 => rfl | 4 => rfl | 5 => rfl | 6 => rfl | _ + 7 => rfl) ?_
        exact (ih m hm).2.1 d j1 j2 j3 x4 x5 (x6 + (Int32.ofInt 1)) (z_s (z_s (z_s (z_s S 101 ((x4 + x6).toInt.toNat) (S 107 x6.toInt.toNat)) 102 ((x4 + x6).toInt.toNat) (x5 + (S 108 x6.toInt.toNat))) 103 ((x4 + x6).toInt.toNat) (x5 + (S 109 x6.toInt.toNat))) 104 ((x4 + x6).toInt.toNat) (x5 + (S 110 x6.toInt.toNat))) hD
    · intro d j1 j2 j3 j4 x5 x6 S hD
      have hD := k227 x5 x6 S hD
      unfold D_X12_takesText_227 at hD
      show u_P L xs n d m_X12_takesText 227 [(0, .ref 100), (1, .int j1), (2, .int j2), (3, .int j3), (4, .int j4), (5, .int x5), (6, .int x6)] [] S R _
      refine u_st1 rfl (fun _ => rfl) (fun m hm => ?_)
      refine u_st rfl (fun _ => rfl) ?_
      show u_P L xs m d m_X12_takesText 230 [(0, .ref 100), (1, .int j1), (2, .int j2), (3, .int j3), (4, .int j4), (5, .int x5), (6, .int x6)] [.ref 100, .int x6] S R _
      refine u_getE (v := S 99 7) rfl v_tyM rfl rfl ?_
      show u_P L xs m d m_X12_takesText 233 [(0, .ref 100), (1, .int j1), (2, .int j2), (3, .int j3), (4, .int j4), (5, .int x5), (6, .int x6)] [.int (S 99 7), .int x6] S R _
      refine u_ic_ge rfl (fun h1 => ?_) (fun h1 => ?_)
      · have hD := hD.1 h1
        show u_P L xs m d m_X12_takesText 276 [(0, .ref 100), (1, .int j1), (2, .int j2), (3, .int j3), (4, .int j4), (5, .int x5), (6, .int x6)] [] S R _
        refine u_st rfl (fun _ => rfl) ?_
        show u_P L xs m d m_X12_takesText 277 [(0, .ref 100), (1, .int j1), (2, .int j2), (3, .int j3), (4, .int j4), (5, .int x5), (6, .int x6)] [.ref 100] S R _
        refine u_getE (v := S 99 6) rfl v_tyM rfl rfl ?_
        show u_P L xs m d m_X12_takesText 280 [(0, .ref 100), (1, .int j1), (2, .int j2), (3, .int j3), (4, .int j4), (5, .int x5), (6, .int x6)] [.int (S 99 6)] S R _
        exact u_ret rfl rfl ⟨_, rfl, rfl, hD⟩
      · have hD := hD.2 h1
        show u_P L xs m d m_X12_takesText 236 [(0, .ref 100), (1, .int j1), (2, .int j2), (3, .int j3), (4, .int j4), (5, .int x5), (6, .int x6)] [] S R _
        refine u_st rfl (fun _ => rfl) ?_
        show u_P L xs m d m_X12_takesText 237 [(0, .ref 100), (1, .int j1), (2, .int j2), (3, .int j3), (4, .int j4), (5, .int x5), (6, .int x6)] [.ref 100] S R _
        refine u_getr rfl v_tyM rfl ?_
        refine u_st rfl (fun _ => rfl) ?_
        refine u_st rfl (fun _ => rfl) ?_
        refine u_st rfl (fun _ => rfl) ?_
        refine u_st rfl (fun _ => rfl) ?_
        show u_P L xs m d m_X12_takesText 246 [(0, .ref 100), (1, .int j1), (2, .int j2), (3, .int j3), (4, .int j4), (5, .int x5), (6, .int x6)] [.ref 100, .int (x5 + x6), .ref 106] S R _
        refine u_getr rfl v_tyM rfl ?_
        refine u_st rfl (fun _ => rfl) ?_
        show u_P L xs m d m_X12_takesText 251 [(0, .ref 100), (1, .int j1), (2, .int j2), (3, .int j3), (4, .int j4), (5, .int x5), (6, .int x6)] [.int x6, .ref 112, .int (x5 + x6), .ref 106] S R _
        refine u_ialdE (v := S 111 x6.toInt.toNat) rfl rfl rfl (fun b21 b22 => ?_)
        have hD := hD b21 b22
        show u_P L xs m d m_X12_takesText 252 [(0, .ref 100), (1, .int j1), (2, .int j2), (3, .int j3), (4, .int j4), (5, .int x5), (6, .int x6)] [.int (S 111 x6.toInt.toNat), .int (x5 + x6), .ref 106] S R _
        refine u_iast rfl rfl (fun b31 b32 => ?_)
        have hD := hD b31 b32
        show u_P L xs m d m_X12_takesText 253 [(0, .ref 100), (1, .int j1), (2, .int j2), (3, .int j3), (4, .int j4), (5, .int x5), (6, .int x6)] [] (z_s S 105 ((x5 + x6).toInt.toNat) (S 111 x6.toInt.toNat)) R _
        refine u_st rfl (fun _ => rfl) ?_
        show u_P L xs m d m_X12_takesText 254 [(0, .ref 100), (1, .int j1), (2, .int j2), (3, .int j3), (4, .int j4), (5, .int x5), (6, .int x6)] [.ref 100] (z_s S 105 ((x5 + x6).toInt.toNat) (S 111 x6.toInt.toNat)) R _
        refine u_getr rfl v_tyM rfl ?_
        refine u_st rfl (fun _ => rfl) ?_
        refine u_st rfl (fun _ => rfl) ?_
        refine u_st rfl (fun _ => rfl) ?_
        refine u_st rfl (fun _ => rfl) ?_
        show u_P L xs m d m_X12_takesText 263 [(0, .ref 100), (1, .int j1), (2, .int j2), (3, .int j3), (4, .int j4), (5, .int x5), (6, .int x6)] [.ref 100, .int (x5 + x6), .ref 107] (z_s S 105 ((x5 + x6).toInt.toNat) (S 111 x6.toInt.toNat)) R _
        refine u_getr rfl v_tyM rfl ?_
        refine u_st rfl (fun _ => rfl) ?_
        show u_P L xs m d m_X12_takesText 268 [(0, .ref 100), (1, .int j1), (2, .int j2), (3, .int j3), (4, .int j4), (5, .int x5), (6, .int x6)] [.int x6, .ref 113, .int (x5 + x6), .ref 107] (z_s S 105 ((x5 + x6).toInt.toNat) (S 111 x6.toInt.toNat)) R _
        refine u_ialdE (v := S 112 x6.toInt.toNat) rfl rfl (z_sn (fun h => absurd h.1 (by decide))) (fun b41 b42 => ?_)
        have hD := hD b41 b42
        show u_P L xs m d m_X12_takesText 269 [(0, .ref 100), (1, .int j1), (2, .int j2), (3, .int j3), (4, .int j4), (5, .int x5), (6, .int x6)] [.int (S 112 x6.toInt.toNat), .int (x5 + x6), .ref 107] (z_s S 105 ((x5 + x6).toInt.toNat) (S 111 x6.toInt.toNat)) R _
        refine u_iast rfl rfl (fun b51 b52 => ?_)
        have hD := hD b51 b52
        show u_P L xs m d m_X12_takesText 270 [(0, .ref 100), (1, .int j1), (2, .int j2), (3, .int j3), (4, .int j4), (5, .int x5), (6, .int x6)] [] (z_s (z_s S 105 ((x5 + x6).toInt.toNat) (S 111 x6.toInt.toNat)) 106 ((x5 + x6).toInt.toNat) (S 112 x6.toInt.toNat)) R _
        refine u_st rfl (fun _ => rfl) ?_
        refine u_st rfl (fun _ => rfl) ?_
        refine u_lc (b := [(0, .ref 100), (1, .int j1), (2, .int j2), (3, .int j3), (4, .int j4), (5, .int x5), (6, .int (x6 + (Int32.ofInt 1)))]) (show ([6, 0, 1, 2, 3, 4, 5] : List Nat).Nodup by decide) (show ([0, 1, 2, 3, 4, 5, 6] : List Nat).Nodup by decide) (fun i => match i with | 0 => rfl | 1 => rfl | 2 => rfl | 3 => rfl | 4 => rfl | 5 => rfl | 6 => rfl | _ + 7 => rfl) ?_
        exact (ih m hm).2.2 d j1 j2 j3 j4 x5 (x6 + (Int32.ofInt 1)) (z_s (z_s S 105 ((x5 + x6).toInt.toNat) (S 111 x6.toInt.toNat)) 106 ((x5 + x6).toInt.toNat) (S 112 x6.toInt.toNat)) hD
set_option maxRecDepth 4000 in
theorem w_X12_takesText (L : Nat) (xs : Nat → Int32) {R : v_Rf} (a : Int32) (b : Int32) (H17 : Int32 → Int32 → v_Sf → Prop) (H132 : Int32 → Int32 → Int32 → v_Sf → Prop) (H227 : Int32 → Int32 → v_Sf → Prop) (K : Int32 → v_Sf → Prop) (k17 : ∀ (x2 : Int32) (x3 : Int32) (S : v_Sf), H17 x2 x3 S → D_X12_takesText_17 H17 H132 H227 K x2 x3 S) (k132 : ∀ (x4 : Int32) (x5 : Int32) (x6 : Int32) (S : v_Sf), H132 x4 x5 x6 S → D_X12_takesText_132 H17 H132 H227 K x4 x5 x6 S) (k227 : ∀ (x5 : Int32) (x6 : Int32) (S : v_Sf), H227 x5 x6 S → D_X12_takesText_227 H17 H132 H227 K x5 x6 S) (n d : Nat) (S : v_Sf) (hD : D_X12_takesText a b H17 H132 H227 K S) : u_P L xs n d m_X12_takesText 0 (lv_args 0 [.ref 100, .int a, .int b]) [] S R (z_Q R K) := by
  unfold D_X12_takesText at hD
  show u_P L xs n d m_X12_takesText 0 [(0, .ref 100), (1, .int a), (2, .int b)] [] S R _
  refine u_st rfl (fun _ => rfl) ?_
  refine u_st rfl (fun _ => rfl) ?_
  show u_P L xs n d m_X12_takesText 2 [(0, .ref 100), (1, .int a), (2, .int b)] [.int a, .ref 100] S R _
  refine u_cv (rest := []) rfl (by decide) mt_X12_begins v_tyM rfl rfl rfl (Nat.le_of_ble_eq_true rfl) (Nat.le_of_ble_eq_true rfl) (Nat.le_of_ble_eq_true rfl) (fun d' => c_X12_begins L xs n d' a S R) ?_
  rintro _ _ _ ⟨rfl, rfl, rfl⟩
  refine u_st rfl (fun _ => rfl) ?_
  refine u_st rfl (fun _ => rfl) ?_
  show u_P L xs n d m_X12_takesText 7 [(0, .ref 100), (1, .int a), (2, .int b)] [.int (Int32.ofInt 0), .ref 100] (g_X12_begins a S) R _
  refine u_put rfl v_tyM rfl ?_
  refine u_st rfl (fun _ => rfl) ?_
  refine u_st rfl (fun _ => rfl) ?_
  show u_P L xs n d m_X12_takesText 12 [(0, .ref 100), (1, .int a), (2, .int b)] [.int (Int32.ofInt 0), .ref 100] (z_s (g_X12_begins a S) 99 6 (Int32.ofInt 0)) R _
  refine u_put rfl v_tyM rfl ?_
  refine u_st rfl (fun _ => rfl) ?_
  refine u_st rfl (fun _ => rfl) ?_
  refine u_lc (b := [(0, .ref 100), (1, .int a), (2, .int b), (3, .int (Int32.ofInt 1))]) (show ([3, 0, 1, 2] : List Nat).Nodup by decide) (show ([0, 1, 2, 3] : List Nat).Nodup by decide) (fun i => match i with | 0 => rfl | 1 => rfl | 2 => rfl | 3 => rfl | _ + 4 => rfl) ?_
  exact (hd_X12_takesText L xs a b H17 H132 H227 K k17 k132 k227 n).1 d a b (Int32.ofInt 1) (z_s (z_s (g_X12_begins a S) 99 6 (Int32.ofInt 0)) 99 7 (Int32.ofInt 0)) hD
noncomputable def s_X12_takesText_227 (x2 : Int32) (x5 : Int32) (x6 : Int32) (S : v_Sf) : (Int32 × Int32 × v_Sf) ⊕ (Int32 × v_Sf) := (if (S 99 7) ≤ x6 then (Sum.inr ((S 99 6, S))) else (Sum.inl (x5, (x6 + (Int32.ofInt 1)), (z_s (z_s S 105 ((x5 + x6).toInt.toNat) (S 111 x6.toInt.toNat)) 106 ((x5 + x6).toInt.toNat) (S 112 x6.toInt.toNat)))))
noncomputable def s_X12_takesText_132 (x2 : Int32) (x4 : Int32) (x5 : Int32) (x6 : Int32) (S : v_Sf) : (Int32 × Int32 × Int32 × v_Sf) ⊕ (Int32 × v_Sf) := (if (S 99 6) ≤ x6 then (Sum.inr (z_lim (fun p => s_X12_takesText_227 x2 p.1 p.2.1 p.2.2) (Int32.ofInt 0, S) (x5, (Int32.ofInt 0), S))) else (Sum.inl (x4, x5, (x6 + (Int32.ofInt 1)), (z_s (z_s (z_s (z_s S 101 ((x4 + x6).toInt.toNat) (S 107 x6.toInt.toNat)) 102 ((x4 + x6).toInt.toNat) (x5 + (S 108 x6.toInt.toNat))) 103 ((x4 + x6).toInt.toNat) (x5 + (S 109 x6.toInt.toNat))) 104 ((x4 + x6).toInt.toNat) (x5 + (S 110 x6.toInt.toNat))))))
noncomputable def s_X12_takesText_17 (x2 : Int32) (x3 : Int32) (S : v_Sf) : (Int32 × v_Sf) ⊕ (Int32 × v_Sf) := (if x3 = 0 then (if 0 ≤ (S 99 5) then (if x2 = 0 then (Sum.inr (z_lim (fun p => s_X12_takesText_132 x2 p.1 p.2.1 p.2.2.1 p.2.2.2) (Int32.ofInt 0, S) ((Int32.ofInt 0), (Int32.ofInt 0), (Int32.ofInt 0), S))) else (Sum.inr (z_lim (fun p => s_X12_takesText_132 x2 p.1 p.2.1 p.2.2.1 p.2.2.2) (Int32.ofInt 0, S) ((Int32.ofInt 16), (Int32.ofInt 240), (Int32.ofInt 0), S)))) else (Sum.inr ((S 99 5, S)))) else (if (f_X12_isGood S) = 0 then (if 0 ≤ (S 99 5) then (if x2 = 0 then (Sum.inr (z_lim (fun p => s_X12_takesText_132 x2 p.1 p.2.1 p.2.2.1 p.2.2.2) (Int32.ofInt 0, S) ((Int32.ofInt 0), (Int32.ofInt 0), (Int32.ofInt 0), S))) else (Sum.inr (z_lim (fun p => s_X12_takesText_132 x2 p.1 p.2.1 p.2.2.1 p.2.2.2) (Int32.ofInt 0, S) ((Int32.ofInt 16), (Int32.ofInt 240), (Int32.ofInt 0), S)))) else (Sum.inr ((S 99 5, S)))) else (if (f_X12_isGood (g_X12_clause x2 S)) = 0 then (Sum.inl ((Int32.ofInt 0), (g_X12_clause x2 S))) else (if ((g_X12_clause x2 S) 99 4) ≤ ((g_X12_clause x2 S) 99 3) then (Sum.inl ((Int32.ofInt 0), (g_X12_clause x2 S))) else (if (f_X12_here (g_X12_clause x2 S)) = (Int32.ofInt 59) then (Sum.inl ((Int32.ofInt 1), (z_s (g_X12_clause x2 S) 99 3 (((g_X12_clause x2 S) 99 3) + (Int32.ofInt 1))))) else (Sum.inl ((Int32.ofInt 1), (z_s (g_X12_wrongs (Int32.ofInt 1) ((g_X12_clause x2 S) 99 3) (g_X12_clause x2 S)) 99 3 (((g_X12_wrongs (Int32.ofInt 1) ((g_X12_clause x2 S) 99 3) (g_X12_clause x2 S)) 99 3) + (Int32.ofInt 1))))))))))
noncomputable def F_X12_takesText (a : Int32) (b : Int32) (S : v_Sf) : Int32 × v_Sf := z_lim (fun p => s_X12_takesText_17 b p.1 p.2) (Int32.ofInt 0, S) ((Int32.ofInt 1), (z_s (z_s (g_X12_begins a S) 99 6 (Int32.ofInt 0)) 99 7 (Int32.ofInt 0)))
noncomputable def f_X12_takesText (a : Int32) (b : Int32) (S : v_Sf) : Int32 := (F_X12_takesText a b S).1
noncomputable def g_X12_takesText (a : Int32) (b : Int32) (S : v_Sf) : v_Sf := (F_X12_takesText a b S).2
theorem c_X12_takesText (L : Nat) (xs : Nat → Int32) (n d : Nat) (a : Int32) (b : Int32) (S : v_Sf) (R : v_Rf) : u_P L xs n d m_X12_takesText 0 (lv_args 0 [.ref 100, .int a, .int b]) [] S R (z_Q R (fun v S1 => f_X12_takesText a b S = v ∧ g_X12_takesText a b S = S1)) := by
  refine w_X12_takesText L xs a b (fun y2 y3 T => b = y2 ∧ (∀ N out, z_itr (fun p => s_X12_takesText_17 b p.1 p.2) N (y3, T) = some out → F_X12_takesText a b S = out)) (fun y4 y5 y6 T => (∀ N out, z_itr (fun p => s_X12_takesText_132 b p.1 p.2.1 p.2.2.1 p.2.2.2) N (y4, y5, y6, T) = some out → F_X12_takesText a b S = out)) (fun y5 y6 T => (∀ N out, z_itr (fun p => s_X12_takesText_227 b p.1 p.2.1 p.2.2) N (y5, y6, T) = some out → F_X12_takesText a b S = out)) (fun v S1 => f_X12_takesText a b S = v ∧ g_X12_takesText a b S = S1) ?_ ?_ ?_ n d S ?_
  · rintro _ x3 S1 ⟨rfl, e⟩
    unfold D_X12_takesText_17
    refine ⟨fun q1 => ?_, fun q1 => ?_⟩
    · refine ⟨fun q2 => ?_, fun q2 => ?_⟩
      · refine ⟨fun q3 => ?_, fun q3 => ?_⟩
        · have e := (e 1 _ (z_itr_r (by show s_X12_takesText_17 b x3 S1 = _; rw [s_X12_takesText_17, if_pos q1, if_pos q2, if_pos q3]))).symm
          exact fun N out h => e.symm.trans (z_lim_eq h)
        · have e := (e 1 _ (z_itr_r (by show s_X12_takesText_17 b x3 S1 = _; rw [s_X12_takesText_17, if_pos q1, if_pos q2, if_neg q3]))).symm
          exact fun N out h => e.symm.trans (z_lim_eq h)
      · have e := (e 1 _ (z_itr_r (by show s_X12_takesText_17 b x3 S1 = _; rw [s_X12_takesText_17, if_pos q1, if_neg q2]))).symm
        have e1 := congrArg Prod.fst e.symm
        have e2 := congrArg Prod.snd e.symm
        exact ⟨e1, e2⟩
    · refine ⟨fun q4 => ?_, fun q4 => ?_⟩
      · refine ⟨fun q5 => ?_, fun q5 => ?_⟩
        · refine ⟨fun q6 => ?_, fun q6 => ?_⟩
          · have e := (e 1 _ (z_itr_r (by show s_X12_takesText_17 b x3 S1 = _; rw [s_X12_takesText_17, if_neg q1, if_pos q4, if_pos q5, if_pos q6]))).symm
            exact fun N out h => e.symm.trans (z_lim_eq h)
          · have e := (e 1 _ (z_itr_r (by show s_X12_takesText_17 b x3 S1 = _; rw [s_X12_takesText_17, if_neg q1, if_pos q4, if_pos q5, if_neg q6]))).symm
            exact fun N out h => e.symm.trans (z_lim_eq h)
        · have e := (e 1 _ (z_itr_r (by show s_X12_takesText_17 b x3 S1 = _; rw [s_X12_takesText_17, if_neg q1, if_pos q4, if_neg q5]))).symm
          have e1 := congrArg Prod.fst e.symm
          have e2 := congrArg Prod.snd e.symm
          exact ⟨e1, e2⟩
      · refine ⟨fun q7 => ?_, fun q7 => ?_⟩
        · exact ⟨rfl, fun N out h => e (N + 1) out ((z_itr_l (by show s_X12_takesText_17 b x3 S1 = _; rw [s_X12_takesText_17, if_neg q1, if_neg q4, if_pos q7])).trans h)⟩
        · refine ⟨fun q8 => ?_, fun q8 => ?_⟩
          · exact ⟨rfl, fun N out h => e (N + 1) out ((z_itr_l (by show s_X12_takesText_17 b x3 S1 = _; rw [s_X12_takesText_17, if_neg q1, if_neg q4, if_neg q7, if_pos q8])).trans h)⟩
          · refine ⟨fun q9 => ?_, fun q9 => ?_⟩
            · exact ⟨rfl, fun N out h => e (N + 1) out ((z_itr_l (by show s_X12_takesText_17 b x3 S1 = _; rw [s_X12_takesText_17, if_neg q1, if_neg q4, if_neg q7, if_neg q8, if_pos q9])).trans h)⟩
            · exact ⟨rfl, fun N out h => e (N + 1) out ((z_itr_l (by show s_X12_takesText_17 b x3 S1 = _; rw [s_X12_takesText_17, if_neg q1, if_neg q4, if_neg q7, if_neg q8, if_neg q9])).trans h)⟩
  · rintro x4 x5 x6 S1 e
    unfold D_X12_takesText_132
    refine ⟨fun q10 => ?_, fun q10 => ?_⟩
    · have e := (e 1 _ (z_itr_r (by show s_X12_takesText_132 b x4 x5 x6 S1 = _; rw [s_X12_takesText_132, if_pos q10]))).symm
      exact fun N out h => e.symm.trans (z_lim_eq h)
    · intro _ _
      intro _ _
      intro _ _
      intro _ _
      intro _ _
      intro _ _
      intro _ _
      intro _ _
      exact fun N out h => e (N + 1) out ((z_itr_l (by show s_X12_takesText_132 b x4 x5 x6 S1 = _; rw [s_X12_takesText_132, if_neg q10])).trans h)
  · rintro x5 x6 S1 e
    unfold D_X12_takesText_227
    refine ⟨fun q11 => ?_, fun q11 => ?_⟩
    · have e := (e 1 _ (z_itr_r (by show s_X12_takesText_227 b x5 x6 S1 = _; rw [s_X12_takesText_227, if_pos q11]))).symm
      have e1 := congrArg Prod.fst e.symm
      have e2 := congrArg Prod.snd e.symm
      exact ⟨e1, e2⟩
    · intro _ _
      intro _ _
      intro _ _
      intro _ _
      exact fun N out h => e (N + 1) out ((z_itr_l (by show s_X12_takesText_227 b x5 x6 S1 = _; rw [s_X12_takesText_227, if_neg q11])).trans h)
  · unfold D_X12_takesText
    have e : z_lim (fun p => s_X12_takesText_17 b p.1 p.2) (Int32.ofInt 0, S) ((Int32.ofInt 1), (z_s (z_s (g_X12_begins a S) 99 6 (Int32.ofInt 0)) 99 7 (Int32.ofInt 0))) = F_X12_takesText a b S := by rw [F_X12_takesText]
    exact ⟨rfl, fun N out h => e.symm.trans (z_lim_eq h)⟩
noncomputable def f_X12_law (a : Int32) (S : v_Sf) : Int32 := (if (z_in a 1 240) = 0 then Int32.ofInt (-1) else (if a ≤ (S 99 1) then (if (f_X12_takesText a (Int32.ofInt 0) S) < 0 then f_X12_takesText a (Int32.ofInt 0) S else f_X12_takesText a (Int32.ofInt 0) S) else Int32.ofInt (-1)))
noncomputable def g_X12_law (a : Int32) (S : v_Sf) : v_Sf := (if (z_in a 1 240) = 0 then S else (if a ≤ (S 99 1) then (if (f_X12_takesText a (Int32.ofInt 0) S) < 0 then g_X12_takesText a (Int32.ofInt 0) S else z_s (g_X12_takesText a (Int32.ofInt 0) S) 99 16 (f_X12_takesText a (Int32.ofInt 0) S)) else S))
set_option maxRecDepth 4000 in
theorem c_X12_law (L : Nat) (xs : Nat → Int32) (n d : Nat) (a : Int32) (S : v_Sf) (R : v_Rf) : u_P L xs n d m_X12_law 0 (lv_args 0 [.ref 100, .int a]) [] S R (z_Q R (fun v S1 => f_X12_law a S = v ∧ g_X12_law a S = S1)) := by
  show u_P L xs n d m_X12_law 0 [(0, .ref 100), (1, .int a)] [] S R _
  refine u_st rfl (fun _ => rfl) ?_
  refine u_st rfl (fun _ => rfl) ?_
  refine u_st rfl (fun _ => rfl) ?_
  refine u_st rfl (fun _ => rfl) ?_
  show u_P L xs n d m_X12_law 6 [(0, .ref 100), (1, .int a)] [.long (Int64.ofInt 240), .long (Int64.ofNat 1), .long a.toInt64] S R _
  refine u_cs (ac := [.long a.toInt64, .long (Int64.ofNat 1), .long (Int64.ofInt 240)]) (rest := []) rfl (by decide) mt_X12_lies (fun _ => rfl) (Nat.le_of_ble_eq_true rfl) (Nat.le_of_ble_eq_true rfl) (fun d' => z_liesC L xs n d' a (Int64.ofNat 1) (Int64.ofInt 240) (lo := 1) (hi := 240) rfl rfl S R) ?_
  rintro _ _ _ ⟨_, rfl, rfl, rfl, rfl⟩
  show u_P L xs n d m_X12_law 9 [(0, .ref 100), (1, .int a)] [.int (z_in a 1 240)] S R _
  refine u_if_eq rfl (fun h1 => ?_) (fun h1 => ?_)
  · show u_P L xs n d m_X12_law 20 [(0, .ref 100), (1, .int a)] [] S R _
    refine u_st rfl (fun _ => rfl) ?_
    show u_P L xs n d m_X12_law 21 [(0, .ref 100), (1, .int a)] [.int (Int32.ofInt (-1))] S R _
    exact u_ret rfl rfl ⟨_, rfl, rfl, by rw [f_X12_law, if_pos h1], by rw [g_X12_law, if_pos h1]⟩
  · show u_P L xs n d m_X12_law 12 [(0, .ref 100), (1, .int a)] [] S R _
    refine u_st rfl (fun _ => rfl) ?_
    refine u_st rfl (fun _ => rfl) ?_
    show u_P L xs n d m_X12_law 14 [(0, .ref 100), (1, .int a)] [.ref 100, .int a] S R _
    refine u_getE (v := S 99 1) rfl v_tyM rfl rfl ?_
    show u_P L xs n d m_X12_law 17 [(0, .ref 100), (1, .int a)] [.int (S 99 1), .int a] S R _
    refine u_ic_le rfl (fun h2 => ?_) (fun h2 => ?_)
    · show u_P L xs n d m_X12_law 22 [(0, .ref 100), (1, .int a)] [] S R _
      refine u_st rfl (fun _ => rfl) ?_
      refine u_st rfl (fun _ => rfl) ?_
      refine u_st rfl (fun _ => rfl) ?_
      show u_P L xs n d m_X12_law 25 [(0, .ref 100), (1, .int a)] [.int (Int32.ofInt 0), .int a, .ref 100] S R _
      refine u_cv (rest := []) rfl (by decide) mt_X12_takesText v_tyM rfl rfl rfl (Nat.le_of_ble_eq_true rfl) (Nat.le_of_ble_eq_true rfl) (Nat.le_of_ble_eq_true rfl) (fun d' => c_X12_takesText L xs n d' a (Int32.ofInt 0) S R) ?_
      rintro _ _ _ ⟨_, rfl, rfl, rfl, rfl⟩
      refine u_st rfl (fun _ => rfl) ?_
      refine u_st rfl (fun _ => rfl) ?_
      show u_P L xs n d m_X12_law 30 [(2, .int (f_X12_takesText a (Int32.ofInt 0) S)), (0, .ref 100), (1, .int a)] [.int (f_X12_takesText a (Int32.ofInt 0) S)] (g_X12_takesText a (Int32.ofInt 0) S) R _
      refine u_if_lt rfl (fun h3 => ?_) (fun h3 => ?_)
      · show u_P L xs n d m_X12_law 38 [(2, .int (f_X12_takesText a (Int32.ofInt 0) S)), (0, .ref 100), (1, .int a)] [] (g_X12_takesText a (Int32.ofInt 0) S) R _
        refine u_st rfl (fun _ => rfl) ?_
        show u_P L xs n d m_X12_law 39 [(2, .int (f_X12_takesText a (Int32.ofInt 0) S)), (0, .ref 100), (1, .int a)] [.int (f_X12_takesText a (Int32.ofInt 0) S)] (g_X12_takesText a (Int32.ofInt 0) S) R _
        exact u_ret rfl rfl ⟨_, rfl, rfl, by rw [f_X12_law, if_neg h1, if_pos h2, if_pos h3], by rw [g_X12_law, if_neg h1, if_pos h2, if_pos h3]⟩
      · show u_P L xs n d m_X12_law 33 [(2, .int (f_X12_takesText a (Int32.ofInt 0) S)), (0, .ref 100), (1, .int a)] [] (g_X12_takesText a (Int32.ofInt 0) S) R _
        refine u_st rfl (fun _ => rfl) ?_
        refine u_st rfl (fun _ => rfl) ?_
        show u_P L xs n d m_X12_law 35 [(2, .int (f_X12_takesText a (Int32.ofInt 0) S)), (0, .ref 100), (1, .int a)] [.int (f_X12_takesText a (Int32.ofInt 0) S), .ref 100] (g_X12_takesText a (Int32.ofInt 0) S) R _
        refine u_put rfl v_tyM rfl ?_
        refine u_st rfl (fun _ => rfl) ?_
        show u_P L xs n d m_X12_law 39 [(2, .int (f_X12_takesText a (Int32.ofInt 0) S)), (0, .ref 100), (1, .int a)] [.int (f_X12_takesText a (Int32.ofInt 0) S)] (z_s (g_X12_takesText a (Int32.ofInt 0) S) 99 16 (f_X12_takesText a (Int32.ofInt 0) S)) R _
        exact u_ret rfl rfl ⟨_, rfl, rfl, by rw [f_X12_law, if_neg h1, if_pos h2, if_neg h3], by rw [g_X12_law, if_neg h1, if_pos h2, if_neg h3]⟩
    · show u_P L xs n d m_X12_law 20 [(0, .ref 100), (1, .int a)] [] S R _
      refine u_st rfl (fun _ => rfl) ?_
      show u_P L xs n d m_X12_law 21 [(0, .ref 100), (1, .int a)] [.int (Int32.ofInt (-1))] S R _
      exact u_ret rfl rfl ⟨_, rfl, rfl, by rw [f_X12_law, if_neg h1, if_neg h2], by rw [g_X12_law, if_neg h1, if_neg h2]⟩
noncomputable def f_X12_rules (a : Int32) (S : v_Sf) : Int32 := (if (z_in a 1 240) = 0 then Int32.ofInt (-1) else (if a ≤ (S 99 1) then (if (f_X12_takesText a (Int32.ofInt 1) S) < 0 then f_X12_takesText a (Int32.ofInt 1) S else f_X12_takesText a (Int32.ofInt 1) S) else Int32.ofInt (-1)))
noncomputable def g_X12_rules (a : Int32) (S : v_Sf) : v_Sf := (if (z_in a 1 240) = 0 then S else (if a ≤ (S 99 1) then (if (f_X12_takesText a (Int32.ofInt 1) S) < 0 then g_X12_takesText a (Int32.ofInt 1) S else z_s (g_X12_takesText a (Int32.ofInt 1) S) 99 17 (f_X12_takesText a (Int32.ofInt 1) S)) else S))
set_option maxRecDepth 4000 in
theorem c_X12_rules (L : Nat) (xs : Nat → Int32) (n d : Nat) (a : Int32) (S : v_Sf) (R : v_Rf) : u_P L xs n d m_X12_rules 0 (lv_args 0 [.ref 100, .int a]) [] S R (z_Q R (fun v S1 => f_X12_rules a S = v ∧ g_X12_rules a S = S1)) := by
  show u_P L xs n d m_X12_rules 0 [(0, .ref 100), (1, .int a)] [] S R _
  refine u_st rfl (fun _ => rfl) ?_
  refine u_st rfl (fun _ => rfl) ?_
  refine u_st rfl (fun _ => rfl) ?_
  refine u_st rfl (fun _ => rfl) ?_
  show u_P L xs n d m_X12_rules 6 [(0, .ref 100), (1, .int a)] [.long (Int64.ofInt 240), .long (Int64.ofNat 1), .long a.toInt64] S R _
  refine u_cs (ac := [.long a.toInt64, .long (Int64.ofNat 1), .long (Int64.ofInt 240)]) (rest := []) rfl (by decide) mt_X12_lies (fun _ => rfl) (Nat.le_of_ble_eq_true rfl) (Nat.le_of_ble_eq_true rfl) (fun d' => z_liesC L xs n d' a (Int64.ofNat 1) (Int64.ofInt 240) (lo := 1) (hi := 240) rfl rfl S R) ?_
  rintro _ _ _ ⟨_, rfl, rfl, rfl, rfl⟩
  show u_P L xs n d m_X12_rules 9 [(0, .ref 100), (1, .int a)] [.int (z_in a 1 240)] S R _
  refine u_if_eq rfl (fun h1 => ?_) (fun h1 => ?_)
  · show u_P L xs n d m_X12_rules 20 [(0, .ref 100), (1, .int a)] [] S R _
    refine u_st rfl (fun _ => rfl) ?_
    show u_P L xs n d m_X12_rules 21 [(0, .ref 100), (1, .int a)] [.int (Int32.ofInt (-1))] S R _
    exact u_ret rfl rfl ⟨_, rfl, rfl, by rw [f_X12_rules, if_pos h1], by rw [g_X12_rules, if_pos h1]⟩
  · show u_P L xs n d m_X12_rules 12 [(0, .ref 100), (1, .int a)] [] S R _
    refine u_st rfl (fun _ => rfl) ?_
    refine u_st rfl (fun _ => rfl) ?_
    show u_P L xs n d m_X12_rules 14 [(0, .ref 100), (1, .int a)] [.ref 100, .int a] S R _
    refine u_getE (v := S 99 1) rfl v_tyM rfl rfl ?_
    show u_P L xs n d m_X12_rules 17 [(0, .ref 100), (1, .int a)] [.int (S 99 1), .int a] S R _
    refine u_ic_le rfl (fun h2 => ?_) (fun h2 => ?_)
    · show u_P L xs n d m_X12_rules 22 [(0, .ref 100), (1, .int a)] [] S R _
      refine u_st rfl (fun _ => rfl) ?_
      refine u_st rfl (fun _ => rfl) ?_
      refine u_st rfl (fun _ => rfl) ?_
      show u_P L xs n d m_X12_rules 25 [(0, .ref 100), (1, .int a)] [.int (Int32.ofInt 1), .int a, .ref 100] S R _
      refine u_cv (rest := []) rfl (by decide) mt_X12_takesText v_tyM rfl rfl rfl (Nat.le_of_ble_eq_true rfl) (Nat.le_of_ble_eq_true rfl) (Nat.le_of_ble_eq_true rfl) (fun d' => c_X12_takesText L xs n d' a (Int32.ofInt 1) S R) ?_
      rintro _ _ _ ⟨_, rfl, rfl, rfl, rfl⟩
      refine u_st rfl (fun _ => rfl) ?_
      refine u_st rfl (fun _ => rfl) ?_
      show u_P L xs n d m_X12_rules 30 [(2, .int (f_X12_takesText a (Int32.ofInt 1) S)), (0, .ref 100), (1, .int a)] [.int (f_X12_takesText a (Int32.ofInt 1) S)] (g_X12_takesText a (Int32.ofInt 1) S) R _
      refine u_if_lt rfl (fun h3 => ?_) (fun h3 => ?_)
      · show u_P L xs n d m_X12_rules 38 [(2, .int (f_X12_takesText a (Int32.ofInt 1) S)), (0, .ref 100), (1, .int a)] [] (g_X12_takesText a (Int32.ofInt 1) S) R _
        refine u_st rfl (fun _ => rfl) ?_
        show u_P L xs n d m_X12_rules 39 [(2, .int (f_X12_takesText a (Int32.ofInt 1) S)), (0, .ref 100), (1, .int a)] [.int (f_X12_takesText a (Int32.ofInt 1) S)] (g_X12_takesText a (Int32.ofInt 1) S) R _
        exact u_ret rfl rfl ⟨_, rfl, rfl, by rw [f_X12_rules, if_neg h1, if_pos h2, if_pos h3], by rw [g_X12_rules, if_neg h1, if_pos h2, if_pos h3]⟩
      · show u_P L xs n d m_X12_rules 33 [(2, .int (f_X12_takesText a (Int32.ofInt 1) S)), (0, .ref 100), (1, .int a)] [] (g_X12_takesText a (Int32.ofInt 1) S) R _
        refine u_st rfl (fun _ => rfl) ?_
        refine u_st rfl (fun _ => rfl) ?_
        show u_P L xs n d m_X12_rules 35 [(2, .int (f_X12_takesText a (Int32.ofInt 1) S)), (0, .ref 100), (1, .int a)] [.int (f_X12_takesText a (Int32.ofInt 1) S), .ref 100] (g_X12_takesText a (Int32.ofInt 1) S) R _
        refine u_put rfl v_tyM rfl ?_
        refine u_st rfl (fun _ => rfl) ?_
        show u_P L xs n d m_X12_rules 39 [(2, .int (f_X12_takesText a (Int32.ofInt 1) S)), (0, .ref 100), (1, .int a)] [.int (f_X12_takesText a (Int32.ofInt 1) S)] (z_s (g_X12_takesText a (Int32.ofInt 1) S) 99 17 (f_X12_takesText a (Int32.ofInt 1) S)) R _
        exact u_ret rfl rfl ⟨_, rfl, rfl, by rw [f_X12_rules, if_neg h1, if_pos h2, if_neg h3], by rw [g_X12_rules, if_neg h1, if_pos h2, if_neg h3]⟩
    · show u_P L xs n d m_X12_rules 20 [(0, .ref 100), (1, .int a)] [] S R _
      refine u_st rfl (fun _ => rfl) ?_
      show u_P L xs n d m_X12_rules 21 [(0, .ref 100), (1, .int a)] [.int (Int32.ofInt (-1))] S R _
      exact u_ret rfl rfl ⟨_, rfl, rfl, by rw [f_X12_rules, if_neg h1, if_neg h2], by rw [g_X12_rules, if_neg h1, if_neg h2]⟩
noncomputable def D_X12_repeats_38  (H38 : Int32 → Int32 → Int32 → Int32 → v_Sf → Prop) (K : v_Sf → Prop) (x1 : Int32) (x2 : Int32) (x4 : Int32) (x5 : Int32) (S : v_Sf) : Prop := (((x4 * x2) ≤ x5 → K (z_s S 99 64 (x1 + (x4 * x2)))) ∧ (¬ ((x4 * x2) ≤ x5) → (¬ x4 = 0 → (0 ≤ (x1 + (x5 - x5 / x4 * x4)).toInt → (x1 + (x5 - x5 / x4 * x4)).toInt < 48 → (0 ≤ (x1 + x5).toInt → (x1 + x5).toInt < 48 → H38 x1 x2 x4 (x5 + (Int32.ofInt 1)) (z_s S 133 ((x1 + x5).toInt.toNat) (S 133 ((x1 + (x5 - x5 / x4 * x4)).toInt.toNat))))))))
noncomputable def D_X12_repeats (a : Int32) (b : Int32) (i : Int32) (H38 : Int32 → Int32 → Int32 → Int32 → v_Sf → Prop) (K : v_Sf → Prop) (S : v_Sf) : Prop := (((a + (((S 99 64) - a) * b)) ≤ (Int32.ofInt 48) → (((¬ (f_X12_isGood S) = 0) → H38 a b ((S 99 64) - a) ((S 99 64) - a) S) ∧ (¬ (¬ (f_X12_isGood S) = 0) → K S))) ∧ (¬ ((a + (((S 99 64) - a) * b)) ≤ (Int32.ofInt 48)) → (((¬ (f_X12_isGood (g_X12_wrongs (Int32.ofInt 6) i S)) = 0) → H38 a b ((S 99 64) - a) ((S 99 64) - a) (g_X12_wrongs (Int32.ofInt 6) i S)) ∧ (¬ (¬ (f_X12_isGood (g_X12_wrongs (Int32.ofInt 6) i S)) = 0) → K (g_X12_wrongs (Int32.ofInt 6) i S)))))
set_option maxRecDepth 4000 in
theorem hd_X12_repeats (L : Nat) (xs : Nat → Int32) {R : v_Rf} (a : Int32) (b : Int32) (i : Int32) (H38 : Int32 → Int32 → Int32 → Int32 → v_Sf → Prop) (K : v_Sf → Prop) (k38 : ∀ (x1 : Int32) (x2 : Int32) (x4 : Int32) (x5 : Int32) (S : v_Sf), H38 x1 x2 x4 x5 S → D_X12_repeats_38 H38 K x1 x2 x4 x5 S) : ∀ n, (∀ (d : Nat) (j3 : Int32) (x1 : Int32) (x2 : Int32) (x4 : Int32) (x5 : Int32) (S : v_Sf), H38 x1 x2 x4 x5 S → u_P L xs n d m_X12_repeats 38 [(0, .ref 100), (1, .int x1), (2, .int x2), (3, .int j3), (4, .int x4), (5, .int x5)] [] S R (z_V R K)) := by
  intro n
  induction n using Nat.strongRecOn with
  | ind n ih =>
    intro d j3 x1 x2 x4 x5 S hD
    have hD := k38 x1 x2 x4 x5 S hD
    unfold D_X12_repeats_38 at hD
    show u_P L xs n d m_X12_repeats 38 [(0, .ref 100), (1, .int x1), (2, .int x2), (3, .int j3), (4, .int x4), (5, .int x5)] [] S R _
    refine u_st1 rfl (fun _ => rfl) (fun m hm => ?_)
    refine u_st rfl (fun _ => rfl) ?_
    refine u_st rfl (fun _ => rfl) ?_
    refine u_st rfl (fun _ => rfl) ?_
    show u_P L xs m d m_X12_repeats 44 [(0, .ref 100), (1, .int x1), (2, .int x2), (3, .int j3), (4, .int x4), (5, .int x5)] [.int (x4 * x2), .int x5] S R _
    refine u_ic_ge rfl (fun h1 => ?_) (fun h1 => ?_)
    · have hD := hD.1 h1
      show u_P L xs m d m_X12_repeats 74 [(0, .ref 100), (1, .int x1), (2, .int x2), (3, .int j3), (4, .int x4), (5, .int x5)] [] S R _
      refine u_st rfl (fun _ => rfl) ?_
      refine u_st rfl (fun _ => rfl) ?_
      refine u_st rfl (fun _ => rfl) ?_
      refine u_st rfl (fun _ => rfl) ?_
      refine u_st rfl (fun _ => rfl) ?_
      refine u_st rfl (fun _ => rfl) ?_
      show u_P L xs m d m_X12_repeats 81 [(0, .ref 100), (1, .int x1), (2, .int x2), (3, .int j3), (4, .int x4), (5, .int x5)] [.int (x1 + (x4 * x2)), .ref 100] S R _
      refine u_put rfl v_tyM rfl ?_
      show u_P L xs m d m_X12_repeats 84 [(0, .ref 100), (1, .int x1), (2, .int x2), (3, .int j3), (4, .int x4), (5, .int x5)] [] (z_s S 99 64 (x1 + (x4 * x2))) R _
      exact u_ret rfl rfl ⟨rfl, rfl, hD⟩
    · have hD := hD.2 h1
      show u_P L xs m d m_X12_repeats 47 [(0, .ref 100), (1, .int x1), (2, .int x2), (3, .int j3), (4, .int x4), (5, .int x5)] [] S R _
      refine u_st rfl (fun _ => rfl) ?_
      show u_P L xs m d m_X12_repeats 48 [(0, .ref 100), (1, .int x1), (2, .int x2), (3, .int j3), (4, .int x4), (5, .int x5)] [.ref 100] S R _
      refine u_getr rfl v_tyM rfl ?_
      refine u_st rfl (fun _ => rfl) ?_
      refine u_st rfl (fun _ => rfl) ?_
      refine u_st rfl (fun _ => rfl) ?_
      refine u_st rfl (fun _ => rfl) ?_
      show u_P L xs m d m_X12_repeats 56 [(0, .ref 100), (1, .int x1), (2, .int x2), (3, .int j3), (4, .int x4), (5, .int x5)] [.ref 100, .int (x1 + x5), .ref 134] S R _
      refine u_getr rfl v_tyM rfl ?_
      refine u_st rfl (fun _ => rfl) ?_
      refine u_st rfl (fun _ => rfl) ?_
      refine u_st rfl (fun _ => rfl) ?_
      show u_P L xs m d m_X12_repeats 64 [(0, .ref 100), (1, .int x1), (2, .int x2), (3, .int j3), (4, .int x4), (5, .int x5)] [.int x4, .int x5, .int x1, .ref 134, .int (x1 + x5), .ref 134] S R _
      refine u_irem rfl (fun b2 => ?_)
      have hD := hD b2
      show u_P L xs m d m_X12_repeats 65 [(0, .ref 100), (1, .int x1), (2, .int x2), (3, .int j3), (4, .int x4), (5, .int x5)] [.int (x5 - x5 / x4 * x4), .int x1, .ref 134, .int (x1 + x5), .ref 134] S R _
      refine u_st rfl (fun _ => rfl) ?_
      show u_P L xs m d m_X12_repeats 66 [(0, .ref 100), (1, .int x1), (2, .int x2), (3, .int j3), (4, .int x4), (5, .int x5)] [.int (x1 + (x5 - x5 / x4 * x4)), .ref 134, .int (x1 + x5), .ref 134] S R _
      refine u_ialdE (v := S 133 ((x1 + (x5 - x5 / x4 * x4)).toInt.toNat)) rfl rfl rfl (fun b31 b32 => ?_)
      have hD := hD b31 b32
      show u_P L xs m d m_X12_repeats 67 [(0, .ref 100), (1, .int x1), (2, .int x2), (3, .int j3), (4, .int x4), (5, .int x5)] [.int (S 133 ((x1 + (x5 - x5 / x4 * x4)).toInt.toNat)), .int (x1 + x5), .ref 134] S R _
      refine u_iast rfl rfl (fun b41 b42 => ?_)
      have hD := hD b41 b42
      show u_P L xs m d m_X12_repeats 68 [(0, .ref 100), (1, .int x1), (2, .int x2), (3, .int j3), (4, .int x4), (5, .int x5)] [] (z_s S 133 ((x1 + x5).toInt.toNat) (S 133 ((x1 + (x5 - x5 / x4 * x4)).toInt.toNat))) R _
      refine u_st rfl (fun _ => rfl) ?_
      refine u_st rfl (fun _ => rfl) ?_
      refine u_lc (b := [(0, .ref 100), (1, .int x1), (2, .int x2), (3, .int j3), (4, .int x4), (5, .int (x5 + (Int32.ofInt 1)))]) (show ([5, 0, 1, 2, 3, 4] : List Nat).Nodup by decide) (show ([0, 1, 2, 3, 4, 5] : List Nat).Nodup by decide) (fun i => match i with | 0 => rfl | 1 => rfl | 2 => rfl | 3 => rfl | 4 => rfl | 5 => rfl | _ + 6 => rfl) ?_
      exact (ih m hm) d j3 x1 x2 x4 (x5 + (Int32.ofInt 1)) (z_s S 133 ((x1 + x5).toInt.toNat) (S 133 ((x1 + (x5 - x5 / x4 * x4)).toInt.toNat))) hD
set_option maxRecDepth 4000 in
theorem w_X12_repeats (L : Nat) (xs : Nat → Int32) {R : v_Rf} (a : Int32) (b : Int32) (i : Int32) (H38 : Int32 → Int32 → Int32 → Int32 → v_Sf → Prop) (K : v_Sf → Prop) (k38 : ∀ (x1 : Int32) (x2 : Int32) (x4 : Int32) (x5 : Int32) (S : v_Sf), H38 x1 x2 x4 x5 S → D_X12_repeats_38 H38 K x1 x2 x4 x5 S) (n d : Nat) (S : v_Sf) (hD : D_X12_repeats a b i H38 K S) : u_P L xs n d m_X12_repeats 0 (lv_args 0 [.ref 100, .int a, .int b, .int i]) [] S R (z_V R K) := by
  unfold D_X12_repeats at hD
  show u_P L xs n d m_X12_repeats 0 [(0, .ref 100), (1, .int a), (2, .int b), (3, .int i)] [] S R _
  refine u_st rfl (fun _ => rfl) ?_
  show u_P L xs n d m_X12_repeats 1 [(0, .ref 100), (1, .int a), (2, .int b), (3, .int i)] [.ref 100] S R _
  refine u_getE (v := S 99 64) rfl v_tyM rfl rfl ?_
  refine u_st rfl (fun _ => rfl) ?_
  refine u_st rfl (fun _ => rfl) ?_
  refine u_st rfl (fun _ => rfl) ?_
  refine u_st rfl (fun _ => rfl) ?_
  refine u_st rfl (fun _ => rfl) ?_
  refine u_st rfl (fun _ => rfl) ?_
  refine u_st rfl (fun _ => rfl) ?_
  refine u_st rfl (fun _ => rfl) ?_
  refine u_st rfl (fun _ => rfl) ?_
  show u_P L xs n d m_X12_repeats 16 [(4, .int ((S 99 64) - a)), (0, .ref 100), (1, .int a), (2, .int b), (3, .int i)] [.int (Int32.ofInt 48), .int (a + (((S 99 64) - a) * b))] S R _
  refine u_ic_le rfl (fun h1 => ?_) (fun h1 => ?_)
  · have hD := hD.1 h1
    show u_P L xs n d m_X12_repeats 26 [(4, .int ((S 99 64) - a)), (0, .ref 100), (1, .int a), (2, .int b), (3, .int i)] [] S R _
    refine u_st rfl (fun _ => rfl) ?_
    show u_P L xs n d m_X12_repeats 27 [(4, .int ((S 99 64) - a)), (0, .ref 100), (1, .int a), (2, .int b), (3, .int i)] [.ref 100] S R _
    refine u_cv (rest := []) rfl (by decide) mt_X12_isGood v_tyM rfl rfl rfl (Nat.le_of_ble_eq_true rfl) (Nat.le_of_ble_eq_true rfl) (Nat.le_of_ble_eq_true rfl) (fun d' => c_X12_isGood L xs n d' S R) ?_
    rintro _ _ _ ⟨_, rfl, rfl, rfl, rfl⟩
    show u_P L xs n d m_X12_repeats 30 [(4, .int ((S 99 64) - a)), (0, .ref 100), (1, .int a), (2, .int b), (3, .int i)] [.int (f_X12_isGood S)] S R _
    refine u_if_ne rfl (fun h2 => ?_) (fun h2 => ?_)
    · have hD := hD.1 h2
      show u_P L xs n d m_X12_repeats 34 [(4, .int ((S 99 64) - a)), (0, .ref 100), (1, .int a), (2, .int b), (3, .int i)] [] S R _
      refine u_st rfl (fun _ => rfl) ?_
      refine u_st rfl (fun _ => rfl) ?_
      refine u_lc (b := [(0, .ref 100), (1, .int a), (2, .int b), (3, .int i), (4, .int ((S 99 64) - a)), (5, .int ((S 99 64) - a))]) (show ([5, 4, 0, 1, 2, 3] : List Nat).Nodup by decide) (show ([0, 1, 2, 3, 4, 5] : List Nat).Nodup by decide) (fun i => match i with | 0 => rfl | 1 => rfl | 2 => rfl | 3 => rfl | 4 => rfl | 5 => rfl | _ + 6 => rfl) ?_
      exact (hd_X12_repeats L xs a b i H38 K k38 n) d i a b ((S 99 64) - a) ((S 99 64) - a) S hD
    · have hD := hD.2 h2
      show u_P L xs n d m_X12_repeats 33 [(4, .int ((S 99 64) - a)), (0, .ref 100), (1, .int a), (2, .int b), (3, .int i)] [] S R _
      exact u_ret rfl rfl ⟨rfl, rfl, hD⟩
  · have hD := hD.2 h1
    show u_P L xs n d m_X12_repeats 19 [(4, .int ((S 99 64) - a)), (0, .ref 100), (1, .int a), (2, .int b), (3, .int i)] [] S R _
    refine u_st rfl (fun _ => rfl) ?_
    refine u_st rfl (fun _ => rfl) ?_
    refine u_st rfl (fun _ => rfl) ?_
    show u_P L xs n d m_X12_repeats 23 [(4, .int ((S 99 64) - a)), (0, .ref 100), (1, .int a), (2, .int b), (3, .int i)] [.int i, .int (Int32.ofInt 6), .ref 100] S R _
    refine u_cv (rest := []) rfl (by decide) mt_X12_wrongs v_tyM rfl rfl rfl (Nat.le_of_ble_eq_true rfl) (Nat.le_of_ble_eq_true rfl) (Nat.le_of_ble_eq_true rfl) (fun d' => c_X12_wrongs L xs n d' (Int32.ofInt 6) i S R) ?_
    rintro _ _ _ ⟨rfl, rfl, rfl⟩
    refine u_st rfl (fun _ => rfl) ?_
    show u_P L xs n d m_X12_repeats 27 [(4, .int ((S 99 64) - a)), (0, .ref 100), (1, .int a), (2, .int b), (3, .int i)] [.ref 100] (g_X12_wrongs (Int32.ofInt 6) i S) R _
    refine u_cv (rest := []) rfl (by decide) mt_X12_isGood v_tyM rfl rfl rfl (Nat.le_of_ble_eq_true rfl) (Nat.le_of_ble_eq_true rfl) (Nat.le_of_ble_eq_true rfl) (fun d' => c_X12_isGood L xs n d' (g_X12_wrongs (Int32.ofInt 6) i S) R) ?_
    rintro _ _ _ ⟨_, rfl, rfl, rfl, rfl⟩
    show u_P L xs n d m_X12_repeats 30 [(4, .int ((S 99 64) - a)), (0, .ref 100), (1, .int a), (2, .int b), (3, .int i)] [.int (f_X12_isGood (g_X12_wrongs (Int32.ofInt 6) i S))] (g_X12_wrongs (Int32.ofInt 6) i S) R _
    refine u_if_ne rfl (fun h3 => ?_) (fun h3 => ?_)
    · have hD := hD.1 h3
      show u_P L xs n d m_X12_repeats 34 [(4, .int ((S 99 64) - a)), (0, .ref 100), (1, .int a), (2, .int b), (3, .int i)] [] (g_X12_wrongs (Int32.ofInt 6) i S) R _
      refine u_st rfl (fun _ => rfl) ?_
      refine u_st rfl (fun _ => rfl) ?_
      refine u_lc (b := [(0, .ref 100), (1, .int a), (2, .int b), (3, .int i), (4, .int ((S 99 64) - a)), (5, .int ((S 99 64) - a))]) (show ([5, 4, 0, 1, 2, 3] : List Nat).Nodup by decide) (show ([0, 1, 2, 3, 4, 5] : List Nat).Nodup by decide) (fun i => match i with | 0 => rfl | 1 => rfl | 2 => rfl | 3 => rfl | 4 => rfl | 5 => rfl | _ + 6 => rfl) ?_
      exact (hd_X12_repeats L xs a b i H38 K k38 n) d i a b ((S 99 64) - a) ((S 99 64) - a) (g_X12_wrongs (Int32.ofInt 6) i S) hD
    · have hD := hD.2 h3
      show u_P L xs n d m_X12_repeats 33 [(4, .int ((S 99 64) - a)), (0, .ref 100), (1, .int a), (2, .int b), (3, .int i)] [] (g_X12_wrongs (Int32.ofInt 6) i S) R _
      exact u_ret rfl rfl ⟨rfl, rfl, hD⟩
noncomputable def s_X12_repeats_38 (x1 : Int32) (x2 : Int32) (x4 : Int32) (x5 : Int32) (S : v_Sf) : (Int32 × v_Sf) ⊕ (v_Sf) := (if (x4 * x2) ≤ x5 then (Sum.inr (z_s S 99 64 (x1 + (x4 * x2)))) else (Sum.inl ((x5 + (Int32.ofInt 1)), (z_s S 133 ((x1 + x5).toInt.toNat) (S 133 ((x1 + (x5 - x5 / x4 * x4)).toInt.toNat))))))
noncomputable def F_X12_repeats (a : Int32) (b : Int32) (i : Int32) (S : v_Sf) : v_Sf := (if (a + (((S 99 64) - a) * b)) ≤ (Int32.ofInt 48) then (if ¬ (f_X12_isGood S) = 0 then z_lim (fun p => s_X12_repeats_38 a b ((S 99 64) - a) p.1 p.2) S (((S 99 64) - a), S) else S) else (if ¬ (f_X12_isGood (g_X12_wrongs (Int32.ofInt 6) i S)) = 0 then z_lim (fun p => s_X12_repeats_38 a b ((S 99 64) - a) p.1 p.2) S (((S 99 64) - a), (g_X12_wrongs (Int32.ofInt 6) i S)) else g_X12_wrongs (Int32.ofInt 6) i S))
noncomputable def g_X12_repeats (a : Int32) (b : Int32) (i : Int32) (S : v_Sf) : v_Sf := F_X12_repeats a b i S
theorem c_X12_repeats (L : Nat) (xs : Nat → Int32) (n d : Nat) (a : Int32) (b : Int32) (i : Int32) (S : v_Sf) (R : v_Rf) : u_P L xs n d m_X12_repeats 0 (lv_args 0 [.ref 100, .int a, .int b, .int i]) [] S R (z_V R (fun S1 => g_X12_repeats a b i S = S1)) := by
  refine w_X12_repeats L xs a b i (fun y1 y2 y4 y5 T => a = y1 ∧ b = y2 ∧ (S 99 64) - a = y4 ∧ (∀ N out, z_itr (fun p => s_X12_repeats_38 a b ((S 99 64) - a) p.1 p.2) N (y5, T) = some out → F_X12_repeats a b i S = out)) (fun S1 => g_X12_repeats a b i S = S1) ?_ n d S ?_
  · rintro _ _ _ x5 S1 ⟨rfl, rfl, rfl, e⟩
    unfold D_X12_repeats_38
    refine ⟨fun q1 => ?_, fun q1 => ?_⟩
    · have e := (e 1 _ (z_itr_r (by show s_X12_repeats_38 a b ((S 99 64) - a) x5 S1 = _; rw [s_X12_repeats_38, if_pos q1]))).symm
      exact e.symm
    · intro _
      intro _ _
      intro _ _
      exact ⟨rfl, rfl, rfl, fun N out h => e (N + 1) out ((z_itr_l (by show s_X12_repeats_38 a b ((S 99 64) - a) x5 S1 = _; rw [s_X12_repeats_38, if_neg q1])).trans h)⟩
  · unfold D_X12_repeats
    refine ⟨fun q2 => ?_, fun q2 => ?_⟩
    · refine ⟨fun q3 => ?_, fun q3 => ?_⟩
      · have e : z_lim (fun p => s_X12_repeats_38 a b ((S 99 64) - a) p.1 p.2) S (((S 99 64) - a), S) = F_X12_repeats a b i S := by rw [F_X12_repeats, if_pos q2, if_pos q3]
        exact ⟨rfl, rfl, rfl, fun N out h => e.symm.trans (z_lim_eq h)⟩
      · have e : S = F_X12_repeats a b i S := by rw [F_X12_repeats, if_pos q2, if_neg q3]
        exact e.symm
    · refine ⟨fun q4 => ?_, fun q4 => ?_⟩
      · have e : z_lim (fun p => s_X12_repeats_38 a b ((S 99 64) - a) p.1 p.2) S (((S 99 64) - a), (g_X12_wrongs (Int32.ofInt 6) i S)) = F_X12_repeats a b i S := by rw [F_X12_repeats, if_neg q2, if_pos q4]
        exact ⟨rfl, rfl, rfl, fun N out h => e.symm.trans (z_lim_eq h)⟩
      · have e : g_X12_wrongs (Int32.ofInt 6) i S = F_X12_repeats a b i S := by rw [F_X12_repeats, if_neg q2, if_neg q4]
        exact e.symm
end PrtS42t
section PrtS42u
noncomputable def D_X12_monthTold_244  (H244 : Int32 → Int32 → v_Sf → Prop) (K : v_Sf → Prop) (x2 : Int32) (x3 : Int32) (S : v_Sf) : Prop := ((x2 ≤ x3 → K (z_s (z_s (z_s S 99 64 ((S 99 64) + x2)) 99 66 (Int32.ofInt 1)) 99 3 ((S 99 3) + (Int32.ofInt 1)))) ∧ (¬ (x2 ≤ x3) → (((¬ (f_X12_here S) = (Int32.ofInt 46)) → (0 ≤ ((S 99 64) + x3).toInt → ((S 99 64) + x3).toInt < 48 → H244 x2 (x3 + (Int32.ofInt 1)) (z_s S 133 (((S 99 64) + x3).toInt.toNat) ((f_X12_here S) - (Int32.ofInt 65))))) ∧ (¬ (¬ (f_X12_here S) = (Int32.ofInt 46)) → (0 ≤ ((S 99 64) + x3).toInt → ((S 99 64) + x3).toInt < 48 → H244 x2 (x3 + (Int32.ofInt 1)) (z_s S 133 (((S 99 64) + x3).toInt.toNat) (Int32.ofInt (-1))))))))
noncomputable def D_X12_monthTold  (H244 : Int32 → Int32 → v_Sf → Prop) (K : v_Sf → Prop) (S : v_Sf) : Prop := (((¬ (f_X12_here S) = (Int32.ofInt 41)) → (((¬ (f_X12_here (g_X12_timesTold S)) = (Int32.ofInt 40)) → (((f_X12_here (g_X12_timesTold S)) = (Int32.ofInt 46) → (((((g_X12_timesTold S) 99 64) + (f_X12_timesTold S)) ≤ (Int32.ofInt 48) → (((¬ (f_X12_isGood (g_X12_timesTold S)) = 0) → H244 (f_X12_timesTold S) (Int32.ofInt 0) (g_X12_timesTold S)) ∧ (¬ (¬ (f_X12_isGood (g_X12_timesTold S)) = 0) → K (g_X12_timesTold S)))) ∧ (¬ ((((g_X12_timesTold S) 99 64) + (f_X12_timesTold S)) ≤ (Int32.ofInt 48)) → (((¬ (f_X12_isGood (g_X12_wrongs (Int32.ofInt 6) (S 99 3) (g_X12_timesTold S))) = 0) → H244 (f_X12_timesTold S) (Int32.ofInt 0) (g_X12_wrongs (Int32.ofInt 6) (S 99 3) (g_X12_timesTold S))) ∧ (¬ (¬ (f_X12_isGood (g_X12_wrongs (Int32.ofInt 6) (S 99 3) (g_X12_timesTold S))) = 0) → K (g_X12_wrongs (Int32.ofInt 6) (S 99 3) (g_X12_timesTold S))))))) ∧ (¬ ((f_X12_here (g_X12_timesTold S)) = (Int32.ofInt 46)) → (((¬ (z_in ((f_X12_here (g_X12_timesTold S))) 65 74) = 0) → (((((g_X12_timesTold S) 99 64) + (f_X12_timesTold S)) ≤ (Int32.ofInt 48) → (((¬ (f_X12_isGood (g_X12_timesTold S)) = 0) → H244 (f_X12_timesTold S) (Int32.ofInt 0) (g_X12_timesTold S)) ∧ (¬ (¬ (f_X12_isGood (g_X12_timesTold S)) = 0) → K (g_X12_timesTold S)))) ∧ (¬ ((((g_X12_timesTold S) 99 64) + (f_X12_timesTold S)) ≤ (Int32.ofInt 48)) → (((¬ (f_X12_isGood (g_X12_wrongs (Int32.ofInt 6) (S 99 3) (g_X12_timesTold S))) = 0) → H244 (f_X12_timesTold S) (Int32.ofInt 0) (g_X12_wrongs (Int32.ofInt 6) (S 99 3) (g_X12_timesTold S))) ∧ (¬ (¬ (f_X12_isGood (g_X12_wrongs (Int32.ofInt 6) (S 99 3) (g_X12_timesTold S))) = 0) → K (g_X12_wrongs (Int32.ofInt 6) (S 99 3) (g_X12_timesTold S))))))) ∧ (¬ (¬ (z_in ((f_X12_here (g_X12_timesTold S))) 65 74) = 0) → (((¬ (f_X12_isGood (g_X12_wrongs (Int32.ofInt 1) ((g_X12_timesTold S) 99 3) (g_X12_timesTold S))) = 0) → H244 (f_X12_timesTold S) (Int32.ofInt 0) (g_X12_wrongs (Int32.ofInt 1) ((g_X12_timesTold S) 99 3) (g_X12_timesTold S))) ∧ (¬ (¬ (f_X12_isGood (g_X12_wrongs (Int32.ofInt 1) ((g_X12_timesTold S) 99 3) (g_X12_timesTold S))) = 0) → K (g_X12_wrongs (Int32.ofInt 1) ((g_X12_timesTold S) 99 3) (g_X12_timesTold S))))))))) ∧ (¬ (¬ (f_X12_here (g_X12_timesTold S)) = (Int32.ofInt 40)) → (((¬ ((g_X12_timesTold S) 99 65) = (Int32.ofInt 2)) → (((¬ (f_X12_isGood (g_X12_timesTold S)) = 0) → (0 ≤ ((g_X12_timesTold S) 99 65).toInt → ((g_X12_timesTold S) 99 65).toInt < 2 → (0 ≤ ((g_X12_timesTold S) 99 65).toInt → ((g_X12_timesTold S) 99 65).toInt < 2 → (0 ≤ ((g_X12_timesTold S) 99 65).toInt → ((g_X12_timesTold S) 99 65).toInt < 2 → K (z_s (z_s (z_s (z_s (z_s (z_s (g_X12_timesTold S) 134 (((g_X12_timesTold S) 99 65).toInt.toNat) ((g_X12_timesTold S) 99 64)) 135 (((g_X12_timesTold S) 99 65).toInt.toNat) (f_X12_timesTold S)) 136 (((g_X12_timesTold S) 99 65).toInt.toNat) (S 99 3)) 99 65 (((g_X12_timesTold S) 99 65) + (Int32.ofInt 1))) 99 66 (Int32.ofInt 0)) 99 3 (((g_X12_timesTold S) 99 3) + (Int32.ofInt 1))))))) ∧ (¬ (¬ (f_X12_isGood (g_X12_timesTold S)) = 0) → K (g_X12_timesTold S)))) ∧ (¬ (¬ ((g_X12_timesTold S) 99 65) = (Int32.ofInt 2)) → (((¬ (f_X12_isGood (g_X12_wrongs (Int32.ofInt 5) ((g_X12_timesTold S) 99 3) (g_X12_timesTold S))) = 0) → (0 ≤ ((g_X12_wrongs (Int32.ofInt 5) ((g_X12_timesTold S) 99 3) (g_X12_timesTold S)) 99 65).toInt → ((g_X12_wrongs (Int32.ofInt 5) ((g_X12_timesTold S) 99 3) (g_X12_timesTold S)) 99 65).toInt < 2 → (0 ≤ ((g_X12_wrongs (Int32.ofInt 5) ((g_X12_timesTold S) 99 3) (g_X12_timesTold S)) 99 65).toInt → ((g_X12_wrongs (Int32.ofInt 5) ((g_X12_timesTold S) 99 3) (g_X12_timesTold S)) 99 65).toInt < 2 → (0 ≤ ((g_X12_wrongs (Int32.ofInt 5) ((g_X12_timesTold S) 99 3) (g_X12_timesTold S)) 99 65).toInt → ((g_X12_wrongs (Int32.ofInt 5) ((g_X12_timesTold S) 99 3) (g_X12_timesTold S)) 99 65).toInt < 2 → K (z_s (z_s (z_s (z_s (z_s (z_s (g_X12_wrongs (Int32.ofInt 5) ((g_X12_timesTold S) 99 3) (g_X12_timesTold S)) 134 (((g_X12_wrongs (Int32.ofInt 5) ((g_X12_timesTold S) 99 3) (g_X12_timesTold S)) 99 65).toInt.toNat) ((g_X12_wrongs (Int32.ofInt 5) ((g_X12_timesTold S) 99 3) (g_X12_timesTold S)) 99 64)) 135 (((g_X12_wrongs (Int32.ofInt 5) ((g_X12_timesTold S) 99 3) (g_X12_timesTold S)) 99 65).toInt.toNat) (f_X12_timesTold S)) 136 (((g_X12_wrongs (Int32.ofInt 5) ((g_X12_timesTold S) 99 3) (g_X12_timesTold S)) 99 65).toInt.toNat) (S 99 3)) 99 65 (((g_X12_wrongs (Int32.ofInt 5) ((g_X12_timesTold S) 99 3) (g_X12_timesTold S)) 99 65) + (Int32.ofInt 1))) 99 66 (Int32.ofInt 0)) 99 3 (((g_X12_wrongs (Int32.ofInt 5) ((g_X12_timesTold S) 99 3) (g_X12_timesTold S)) 99 3) + (Int32.ofInt 1))))))) ∧ (¬ (¬ (f_X12_isGood (g_X12_wrongs (Int32.ofInt 5) ((g_X12_timesTold S) 99 3) (g_X12_timesTold S))) = 0) → K (g_X12_wrongs (Int32.ofInt 5) ((g_X12_timesTold S) 99 3) (g_X12_timesTold S))))))))) ∧ (¬ (¬ (f_X12_here S) = (Int32.ofInt 41)) → (((S 99 65) ≤ 0 → (((¬ (f_X12_here (g_X12_timesTold S)) = (Int32.ofInt 40)) → (((f_X12_here (g_X12_timesTold S)) = (Int32.ofInt 46) → (((((g_X12_timesTold S) 99 64) + (f_X12_timesTold S)) ≤ (Int32.ofInt 48) → (((¬ (f_X12_isGood (g_X12_timesTold S)) = 0) → H244 (f_X12_timesTold S) (Int32.ofInt 0) (g_X12_timesTold S)) ∧ (¬ (¬ (f_X12_isGood (g_X12_timesTold S)) = 0) → K (g_X12_timesTold S)))) ∧ (¬ ((((g_X12_timesTold S) 99 64) + (f_X12_timesTold S)) ≤ (Int32.ofInt 48)) → (((¬ (f_X12_isGood (g_X12_wrongs (Int32.ofInt 6) (S 99 3) (g_X12_timesTold S))) = 0) → H244 (f_X12_timesTold S) (Int32.ofInt 0) (g_X12_wrongs (Int32.ofInt 6) (S 99 3) (g_X12_timesTold S))) ∧ (¬ (¬ (f_X12_isGood (g_X12_wrongs (Int32.ofInt 6) (S 99 3) (g_X12_timesTold S))) = 0) → K (g_X12_wrongs (Int32.ofInt 6) (S 99 3) (g_X12_timesTold S))))))) ∧ (¬ ((f_X12_here (g_X12_timesTold S)) = (Int32.ofInt 46)) → (((¬ (z_in ((f_X12_here (g_X12_timesTold S))) 65 74) = 0) → (((((g_X12_timesTold S) 99 64) + (f_X12_timesTold S)) ≤ (Int32.ofInt 48) → (((¬ (f_X12_isGood (g_X12_timesTold S)) = 0) → H244 (f_X12_timesTold S) (Int32.ofInt 0) (g_X12_timesTold S)) ∧ (¬ (¬ (f_X12_isGood (g_X12_timesTold S)) = 0) → K (g_X12_timesTold S)))) ∧ (¬ ((((g_X12_timesTold S) 99 64) + (f_X12_timesTold S)) ≤ (Int32.ofInt 48)) → (((¬ (f_X12_isGood (g_X12_wrongs (Int32.ofInt 6) (S 99 3) (g_X12_timesTold S))) = 0) → H244 (f_X12_timesTold S) (Int32.ofInt 0) (g_X12_wrongs (Int32.ofInt 6) (S 99 3) (g_X12_timesTold S))) ∧ (¬ (¬ (f_X12_isGood (g_X12_wrongs (Int32.ofInt 6) (S 99 3) (g_X12_timesTold S))) = 0) → K (g_X12_wrongs (Int32.ofInt 6) (S 99 3) (g_X12_timesTold S))))))) ∧ (¬ (¬ (z_in ((f_X12_here (g_X12_timesTold S))) 65 74) = 0) → (((¬ (f_X12_isGood (g_X12_wrongs (Int32.ofInt 1) ((g_X12_timesTold S) 99 3) (g_X12_timesTold S))) = 0) → H244 (f_X12_timesTold S) (Int32.ofInt 0) (g_X12_wrongs (Int32.ofInt 1) ((g_X12_timesTold S) 99 3) (g_X12_timesTold S))) ∧ (¬ (¬ (f_X12_isGood (g_X12_wrongs (Int32.ofInt 1) ((g_X12_timesTold S) 99 3) (g_X12_timesTold S))) = 0) → K (g_X12_wrongs (Int32.ofInt 1) ((g_X12_timesTold S) 99 3) (g_X12_timesTold S))))))))) ∧ (¬ (¬ (f_X12_here (g_X12_timesTold S)) = (Int32.ofInt 40)) → (((¬ ((g_X12_timesTold S) 99 65) = (Int32.ofInt 2)) → (((¬ (f_X12_isGood (g_X12_timesTold S)) = 0) → (0 ≤ ((g_X12_timesTold S) 99 65).toInt → ((g_X12_timesTold S) 99 65).toInt < 2 → (0 ≤ ((g_X12_timesTold S) 99 65).toInt → ((g_X12_timesTold S) 99 65).toInt < 2 → (0 ≤ ((g_X12_timesTold S) 99 65).toInt → ((g_X12_timesTold S) 99 65).toInt < 2 → K (z_s (z_s (z_s (z_s (z_s (z_s (g_X12_timesTold S) 134 (((g_X12_timesTold S) 99 65).toInt.toNat) ((g_X12_timesTold S) 99 64)) 135 (((g_X12_timesTold S) 99 65).toInt.toNat) (f_X12_timesTold S)) 136 (((g_X12_timesTold S) 99 65).toInt.toNat) (S 99 3)) 99 65 (((g_X12_timesTold S) 99 65) + (Int32.ofInt 1))) 99 66 (Int32.ofInt 0)) 99 3 (((g_X12_timesTold S) 99 3) + (Int32.ofInt 1))))))) ∧ (¬ (¬ (f_X12_isGood (g_X12_timesTold S)) = 0) → K (g_X12_timesTold S)))) ∧ (¬ (¬ ((g_X12_timesTold S) 99 65) = (Int32.ofInt 2)) → (((¬ (f_X12_isGood (g_X12_wrongs (Int32.ofInt 5) ((g_X12_timesTold S) 99 3) (g_X12_timesTold S))) = 0) → (0 ≤ ((g_X12_wrongs (Int32.ofInt 5) ((g_X12_timesTold S) 99 3) (g_X12_timesTold S)) 99 65).toInt → ((g_X12_wrongs (Int32.ofInt 5) ((g_X12_timesTold S) 99 3) (g_X12_timesTold S)) 99 65).toInt < 2 → (0 ≤ ((g_X12_wrongs (Int32.ofInt 5) ((g_X12_timesTold S) 99 3) (g_X12_timesTold S)) 99 65).toInt → ((g_X12_wrongs (Int32.ofInt 5) ((g_X12_timesTold S) 99 3) (g_X12_timesTold S)) 99 65).toInt < 2 → (0 ≤ ((g_X12_wrongs (Int32.ofInt 5) ((g_X12_timesTold S) 99 3) (g_X12_timesTold S)) 99 65).toInt → ((g_X12_wrongs (Int32.ofInt 5) ((g_X12_timesTold S) 99 3) (g_X12_timesTold S)) 99 65).toInt < 2 → K (z_s (z_s (z_s (z_s (z_s (z_s (g_X12_wrongs (Int32.ofInt 5) ((g_X12_timesTold S) 99 3) (g_X12_timesTold S)) 134 (((g_X12_wrongs (Int32.ofInt 5) ((g_X12_timesTold S) 99 3) (g_X12_timesTold S)) 99 65).toInt.toNat) ((g_X12_wrongs (Int32.ofInt 5) ((g_X12_timesTold S) 99 3) (g_X12_timesTold S)) 99 64)) 135 (((g_X12_wrongs (Int32.ofInt 5) ((g_X12_timesTold S) 99 3) (g_X12_timesTold S)) 99 65).toInt.toNat) (f_X12_timesTold S)) 136 (((g_X12_wrongs (Int32.ofInt 5) ((g_X12_timesTold S) 99 3) (g_X12_timesTold S)) 99 65).toInt.toNat) (S 99 3)) 99 65 (((g_X12_wrongs (Int32.ofInt 5) ((g_X12_timesTold S) 99 3) (g_X12_timesTold S)) 99 65) + (Int32.ofInt 1))) 99 66 (Int32.ofInt 0)) 99 3 (((g_X12_wrongs (Int32.ofInt 5) ((g_X12_timesTold S) 99 3) (g_X12_timesTold S)) 99 3) + (Int32.ofInt 1))))))) ∧ (¬ (¬ (f_X12_isGood (g_X12_wrongs (Int32.ofInt 5) ((g_X12_timesTold S) 99 3) (g_X12_timesTold S))) = 0) → K (g_X12_wrongs (Int32.ofInt 5) ((g_X12_timesTold S) 99 3) (g_X12_timesTold S))))))))) ∧ (¬ ((S 99 65) ≤ 0) → (((S 99 66) = 0 → (((¬ (f_X12_here (g_X12_timesTold S)) = (Int32.ofInt 40)) → (((f_X12_here (g_X12_timesTold S)) = (Int32.ofInt 46) → (((((g_X12_timesTold S) 99 64) + (f_X12_timesTold S)) ≤ (Int32.ofInt 48) → (((¬ (f_X12_isGood (g_X12_timesTold S)) = 0) → H244 (f_X12_timesTold S) (Int32.ofInt 0) (g_X12_timesTold S)) ∧ (¬ (¬ (f_X12_isGood (g_X12_timesTold S)) = 0) → K (g_X12_timesTold S)))) ∧ (¬ ((((g_X12_timesTold S) 99 64) + (f_X12_timesTold S)) ≤ (Int32.ofInt 48)) → (((¬ (f_X12_isGood (g_X12_wrongs (Int32.ofInt 6) (S 99 3) (g_X12_timesTold S))) = 0) → H244 (f_X12_timesTold S) (Int32.ofInt 0) (g_X12_wrongs (Int32.ofInt 6) (S 99 3) (g_X12_timesTold S))) ∧ (¬ (¬ (f_X12_isGood (g_X12_wrongs (Int32.ofInt 6) (S 99 3) (g_X12_timesTold S))) = 0) → K (g_X12_wrongs (Int32.ofInt 6) (S 99 3) (g_X12_timesTold S))))))) ∧ (¬ ((f_X12_here (g_X12_timesTold S)) = (Int32.ofInt 46)) → (((¬ (z_in ((f_X12_here (g_X12_timesTold S))) 65 74) = 0) → (((((g_X12_timesTold S) 99 64) + (f_X12_timesTold S)) ≤ (Int32.ofInt 48) → (((¬ (f_X12_isGood (g_X12_timesTold S)) = 0) → H244 (f_X12_timesTold S) (Int32.ofInt 0) (g_X12_timesTold S)) ∧ (¬ (¬ (f_X12_isGood (g_X12_timesTold S)) = 0) → K (g_X12_timesTold S)))) ∧ (¬ ((((g_X12_timesTold S) 99 64) + (f_X12_timesTold S)) ≤ (Int32.ofInt 48)) → (((¬ (f_X12_isGood (g_X12_wrongs (Int32.ofInt 6) (S 99 3) (g_X12_timesTold S))) = 0) → H244 (f_X12_timesTold S) (Int32.ofInt 0) (g_X12_wrongs (Int32.ofInt 6) (S 99 3) (g_X12_timesTold S))) ∧ (¬ (¬ (f_X12_isGood (g_X12_wrongs (Int32.ofInt 6) (S 99 3) (g_X12_timesTold S))) = 0) → K (g_X12_wrongs (Int32.ofInt 6) (S 99 3) (g_X12_timesTold S))))))) ∧ (¬ (¬ (z_in ((f_X12_here (g_X12_timesTold S))) 65 74) = 0) → (((¬ (f_X12_isGood (g_X12_wrongs (Int32.ofInt 1) ((g_X12_timesTold S) 99 3) (g_X12_timesTold S))) = 0) → H244 (f_X12_timesTold S) (Int32.ofInt 0) (g_X12_wrongs (Int32.ofInt 1) ((g_X12_timesTold S) 99 3) (g_X12_timesTold S))) ∧ (¬ (¬ (f_X12_isGood (g_X12_wrongs (Int32.ofInt 1) ((g_X12_timesTold S) 99 3) (g_X12_timesTold S))) = 0) → K (g_X12_wrongs (Int32.ofInt 1) ((g_X12_timesTold S) 99 3) (g_X12_timesTold S))))))))) ∧ (¬ (¬ (f_X12_here (g_X12_timesTold S)) = (Int32.ofInt 40)) → (((¬ ((g_X12_timesTold S) 99 65) = (Int32.ofInt 2)) → (((¬ (f_X12_isGood (g_X12_timesTold S)) = 0) → (0 ≤ ((g_X12_timesTold S) 99 65).toInt → ((g_X12_timesTold S) 99 65).toInt < 2 → (0 ≤ ((g_X12_timesTold S) 99 65).toInt → ((g_X12_timesTold S) 99 65).toInt < 2 → (0 ≤ ((g_X12_timesTold S) 99 65).toInt → ((g_X12_timesTold S) 99 65).toInt < 2 → K (z_s (z_s (z_s (z_s (z_s (z_s (g_X12_timesTold S) 134 (((g_X12_timesTold S) 99 65).toInt.toNat) ((g_X12_timesTold S) 99 64)) 135 (((g_X12_timesTold S) 99 65).toInt.toNat) (f_X12_timesTold S)) 136 (((g_X12_timesTold S) 99 65).toInt.toNat) (S 99 3)) 99 65 (((g_X12_timesTold S) 99 65) + (Int32.ofInt 1))) 99 66 (Int32.ofInt 0)) 99 3 (((g_X12_timesTold S) 99 3) + (Int32.ofInt 1))))))) ∧ (¬ (¬ (f_X12_isGood (g_X12_timesTold S)) = 0) → K (g_X12_timesTold S)))) ∧ (¬ (¬ ((g_X12_timesTold S) 99 65) = (Int32.ofInt 2)) → (((¬ (f_X12_isGood (g_X12_wrongs (Int32.ofInt 5) ((g_X12_timesTold S) 99 3) (g_X12_timesTold S))) = 0) → (0 ≤ ((g_X12_wrongs (Int32.ofInt 5) ((g_X12_timesTold S) 99 3) (g_X12_timesTold S)) 99 65).toInt → ((g_X12_wrongs (Int32.ofInt 5) ((g_X12_timesTold S) 99 3) (g_X12_timesTold S)) 99 65).toInt < 2 → (0 ≤ ((g_X12_wrongs (Int32.ofInt 5) ((g_X12_timesTold S) 99 3) (g_X12_timesTold S)) 99 65).toInt → ((g_X12_wrongs (Int32.ofInt 5) ((g_X12_timesTold S) 99 3) (g_X12_timesTold S)) 99 65).toInt < 2 → (0 ≤ ((g_X12_wrongs (Int32.ofInt 5) ((g_X12_timesTold S) 99 3) (g_X12_timesTold S)) 99 65).toInt → ((g_X12_wrongs (Int32.ofInt 5) ((g_X12_timesTold S) 99 3) (g_X12_timesTold S)) 99 65).toInt < 2 → K (z_s (z_s (z_s (z_s (z_s (z_s (g_X12_wrongs (Int32.ofInt 5) ((g_X12_timesTold S) 99 3) (g_X12_timesTold S)) 134 (((g_X12_wrongs (Int32.ofInt 5) ((g_X12_timesTold S) 99 3) (g_X12_timesTold S)) 99 65).toInt.toNat) ((g_X12_wrongs (Int32.ofInt 5) ((g_X12_timesTold S) 99 3) (g_X12_timesTold S)) 99 64)) 135 (((g_X12_wrongs (Int32.ofInt 5) ((g_X12_timesTold S) 99 3) (g_X12_timesTold S)) 99 65).toInt.toNat) (f_X12_timesTold S)) 136 (((g_X12_wrongs (Int32.ofInt 5) ((g_X12_timesTold S) 99 3) (g_X12_timesTold S)) 99 65).toInt.toNat) (S 99 3)) 99 65 (((g_X12_wrongs (Int32.ofInt 5) ((g_X12_timesTold S) 99 3) (g_X12_timesTold S)) 99 65) + (Int32.ofInt 1))) 99 66 (Int32.ofInt 0)) 99 3 (((g_X12_wrongs (Int32.ofInt 5) ((g_X12_timesTold S) 99 3) (g_X12_timesTold S)) 99 3) + (Int32.ofInt 1))))))) ∧ (¬ (¬ (f_X12_isGood (g_X12_wrongs (Int32.ofInt 5) ((g_X12_timesTold S) 99 3) (g_X12_timesTold S))) = 0) → K (g_X12_wrongs (Int32.ofInt 5) ((g_X12_timesTold S) 99 3) (g_X12_timesTold S))))))))) ∧ (¬ ((S 99 66) = 0) → (0 ≤ ((S 99 65) - (Int32.ofInt 1)).toInt → ((S 99 65) - (Int32.ofInt 1)).toInt < 2 → (0 ≤ ((S 99 65) - (Int32.ofInt 1)).toInt → ((S 99 65) - (Int32.ofInt 1)).toInt < 2 → (0 ≤ ((S 99 65) - (Int32.ofInt 1)).toInt → ((S 99 65) - (Int32.ofInt 1)).toInt < 2 → K (g_X12_repeats (S 134 (((S 99 65) - (Int32.ofInt 1)).toInt.toNat)) (S 135 (((S 99 65) - (Int32.ofInt 1)).toInt.toNat)) (S 136 (((S 99 65) - (Int32.ofInt 1)).toInt.toNat)) (z_s (z_s S 99 65 ((S 99 65) - (Int32.ofInt 1))) 99 3 ((S 99 3) + (Int32.ofInt 1)))))))))))))
set_option maxRecDepth 4000 in
theorem hd_X12_monthTold (L : Nat) (xs : Nat → Int32) {R : v_Rf}  (H244 : Int32 → Int32 → v_Sf → Prop) (K : v_Sf → Prop) (k244 : ∀ (x2 : Int32) (x3 : Int32) (S : v_Sf), H244 x2 x3 S → D_X12_monthTold_244 H244 K x2 x3 S) : ∀ n, (∀ (d : Nat) (j1 : Int32) (x2 : Int32) (x3 : Int32) (S : v_Sf), H244 x2 x3 S → u_P L xs n d m_X12_monthTold 244 [(0, .ref 100), (1, .int j1), (2, .int x2), (3, .int x3)] [] S R (z_V R K)) := by
  intro n
  induction n using Nat.strongRecOn with
  | ind n ih =>
    intro d j1 x2 x3 S hD
    have hD := k244 x2 x3 S hD
    unfold D_X12_monthTold_244 at hD
    show u_P L xs n d m_X12_monthTold 244 [(0, .ref 100), (1, .int j1), (2, .int x2), (3, .int x3)] [] S R _
    refine u_st1 rfl (fun _ => rfl) (fun m hm => ?_)
    refine u_st rfl (fun _ => rfl) ?_
    show u_P L xs m d m_X12_monthTold 246 [(0, .ref 100), (1, .int j1), (2, .int x2), (3, .int x3)] [.int x2, .int x3] S R _
    refine u_ic_ge rfl (fun h1 => ?_) (fun h1 => ?_)
    · have hD := hD.1 h1
      show u_P L xs m d m_X12_monthTold 286 [(0, .ref 100), (1, .int j1), (2, .int x2), (3, .int x3)] [] S R _
      refine u_st rfl (fun _ => rfl) ?_
      refine u_st rfl (fun _ => rfl) ?_
      show u_P L xs m d m_X12_monthTold 288 [(0, .ref 100), (1, .int j1), (2, .int x2), (3, .int x3)] [.ref 100, .ref 100] S R _
      refine u_getE (v := S 99 64) rfl v_tyM rfl rfl ?_
      refine u_st rfl (fun _ => rfl) ?_
      refine u_st rfl (fun _ => rfl) ?_
      show u_P L xs m d m_X12_monthTold 293 [(0, .ref 100), (1, .int j1), (2, .int x2), (3, .int x3)] [.int ((S 99 64) + x2), .ref 100] S R _
      refine u_put rfl v_tyM rfl ?_
      refine u_st rfl (fun _ => rfl) ?_
      refine u_st rfl (fun _ => rfl) ?_
      show u_P L xs m d m_X12_monthTold 298 [(0, .ref 100), (1, .int j1), (2, .int x2), (3, .int x3)] [.int (Int32.ofInt 1), .ref 100] (z_s S 99 64 ((S 99 64) + x2)) R _
      refine u_put rfl v_tyM rfl ?_
      refine u_st rfl (fun _ => rfl) ?_
      refine u_st rfl (fun _ => rfl) ?_
      show u_P L xs m d m_X12_monthTold 303 [(0, .ref 100), (1, .int j1), (2, .int x2), (3, .int x3)] [.ref 100, .ref 100] (z_s (z_s S 99 64 ((S 99 64) + x2)) 99 66 (Int32.ofInt 1)) R _
      refine u_getE (v := S 99 3) rfl v_tyM rfl ((z_sn (fun h => absurd h.2 (by decide))).trans (z_sn (fun h => absurd h.2 (by decide)))) ?_
      refine u_st rfl (fun _ => rfl) ?_
      refine u_st rfl (fun _ => rfl) ?_
      show u_P L xs m d m_X12_monthTold 308 [(0, .ref 100), (1, .int j1), (2, .int x2), (3, .int x3)] [.int ((S 99 3) + (Int32.ofInt 1)), .ref 100] (z_s (z_s S 99 64 ((S 99 64) + x2)) 99 66 (Int32.ofInt 1)) R _
      refine u_put rfl v_tyM rfl ?_
      show u_P L xs m d m_X12_monthTold 311 [(0, .ref 100), (1, .int j1), (2, .int x2), (3, .int x3)] [] (z_s (z_s (z_s S 99 64 ((S 99 64) + x2)) 99 66 (Int32.ofInt 1)) 99 3 ((S 99 3) + (Int32.ofInt 1))) R _
      exact u_ret rfl rfl ⟨rfl, rfl, hD⟩
    · have hD := hD.2 h1
      show u_P L xs m d m_X12_monthTold 249 [(0, .ref 100), (1, .int j1), (2, .int x2), (3, .int x3)] [] S R _
      refine u_st rfl (fun _ => rfl) ?_
      show u_P L xs m d m_X12_monthTold 250 [(0, .ref 100), (1, .int j1), (2, .int x2), (3, .int x3)] [.ref 100] S R _
      refine u_getr rfl v_tyM rfl ?_
      refine u_st rfl (fun _ => rfl) ?_
      show u_P L xs m d m_X12_monthTold 254 [(0, .ref 100), (1, .int j1), (2, .int x2), (3, .int x3)] [.ref 100, .ref 134] S R _
      refine u_getE (v := S 99 64) rfl v_tyM rfl rfl ?_
      refine u_st rfl (fun _ => rfl) ?_
      refine u_st rfl (fun _ => rfl) ?_
      refine u_st rfl (fun _ => rfl) ?_
      show u_P L xs m d m_X12_monthTold 260 [(0, .ref 100), (1, .int j1), (2, .int x2), (3, .int x3)] [.ref 100, .int ((S 99 64) + x3), .ref 134] S R _
      refine u_cv (rest := [.int ((S 99 64) + x3), .ref 134]) rfl (by decide) mt_X12_here v_tyM rfl rfl rfl (Nat.le_of_ble_eq_true rfl) (Nat.le_of_ble_eq_true rfl) (Nat.le_of_ble_eq_true rfl) (fun d' => c_X12_here L xs m d' S R) ?_
      rintro _ _ _ ⟨_, rfl, rfl, rfl, rfl⟩
      refine u_st rfl (fun _ => rfl) ?_
      show u_P L xs m d m_X12_monthTold 265 [(0, .ref 100), (1, .int j1), (2, .int x2), (3, .int x3)] [.int (Int32.ofInt 46), .int (f_X12_here S), .int ((S 99 64) + x3), .ref 134] S R _
      refine u_ic_ne rfl (fun h2 => ?_) (fun h2 => ?_)
      · have hD := hD.1 h2
        show u_P L xs m d m_X12_monthTold 272 [(0, .ref 100), (1, .int j1), (2, .int x2), (3, .int x3)] [.int ((S 99 64) + x3), .ref 134] S R _
        refine u_st rfl (fun _ => rfl) ?_
        show u_P L xs m d m_X12_monthTold 273 [(0, .ref 100), (1, .int j1), (2, .int x2), (3, .int x3)] [.ref 100, .int ((S 99 64) + x3), .ref 134] S R _
        refine u_cv (rest := [.int ((S 99 64) + x3), .ref 134]) rfl (by decide) mt_X12_here v_tyM rfl rfl rfl (Nat.le_of_ble_eq_true rfl) (Nat.le_of_ble_eq_true rfl) (Nat.le_of_ble_eq_true rfl) (fun d' => c_X12_here L xs m d' S R) ?_
        rintro _ _ _ ⟨_, rfl, rfl, rfl, rfl⟩
        refine u_st rfl (fun _ => rfl) ?_
        refine u_st rfl (fun _ => rfl) ?_
        show u_P L xs m d m_X12_monthTold 279 [(0, .ref 100), (1, .int j1), (2, .int x2), (3, .int x3)] [.int ((f_X12_here S) - (Int32.ofInt 65)), .int ((S 99 64) + x3), .ref 134] S R _
        refine u_iast rfl rfl (fun b31 b32 => ?_)
        have hD := hD b31 b32
        show u_P L xs m d m_X12_monthTold 280 [(0, .ref 100), (1, .int j1), (2, .int x2), (3, .int x3)] [] (z_s S 133 (((S 99 64) + x3).toInt.toNat) ((f_X12_here S) - (Int32.ofInt 65))) R _
        refine u_st rfl (fun _ => rfl) ?_
        refine u_st rfl (fun _ => rfl) ?_
        refine u_lc (b := [(0, .ref 100), (1, .int j1), (2, .int x2), (3, .int (x3 + (Int32.ofInt 1)))]) (show ([3, 0, 1, 2] : List Nat).Nodup by decide) (show ([0, 1, 2, 3] : List Nat).Nodup by decide) (fun i => match i with | 0 => rfl | 1 => rfl | 2 => rfl | 3 => rfl | _ + 4 => rfl) ?_
        exact (ih m hm) d j1 x2 (x3 + (Int32.ofInt 1)) (z_s S 133 (((S 99 64) + x3).toInt.toNat) ((f_X12_here S) - (Int32.ofInt 65))) hD
      · have hD := hD.2 h2
        show u_P L xs m d m_X12_monthTold 268 [(0, .ref 100), (1, .int j1), (2, .int x2), (3, .int x3)] [.int ((S 99 64) + x3), .ref 134] S R _
        refine u_st rfl (fun _ => rfl) ?_
        refine u_st rfl (fun _ => rfl) ?_
        show u_P L xs m d m_X12_monthTold 279 [(0, .ref 100), (1, .int j1), (2, .int x2), (3, .int x3)] [.int (Int32.ofInt (-1)), .int ((S 99 64) + x3), .ref 134] S R _
        refine u_iast rfl rfl (fun b41 b42 => ?_)
        have hD := hD b41 b42
        show u_P L xs m d m_X12_monthTold 280 [(0, .ref 100), (1, .int j1), (2, .int x2), (3, .int x3)] [] (z_s S 133 (((S 99 64) + x3).toInt.toNat) (Int32.ofInt (-1))) R _
        refine u_st rfl (fun _ => rfl) ?_
        refine u_st rfl (fun _ => rfl) ?_
        refine u_lc (b := [(0, .ref 100), (1, .int j1), (2, .int x2), (3, .int (x3 + (Int32.ofInt 1)))]) (show ([3, 0, 1, 2] : List Nat).Nodup by decide) (show ([0, 1, 2, 3] : List Nat).Nodup by decide) (fun i => match i with | 0 => rfl | 1 => rfl | 2 => rfl | 3 => rfl | _ + 4 => rfl) ?_
        exact (ih m hm) d j1 x2 (x3 + (Int32.ofInt 1)) (z_s S 133 (((S 99 64) + x3).toInt.toNat) (Int32.ofInt (-1))) hD
set_option maxRecDepth 4000 in
theorem w_X12_monthTold (L : Nat) (xs : Nat → Int32) {R : v_Rf}  (H244 : Int32 → Int32 → v_Sf → Prop) (K : v_Sf → Prop) (k244 : ∀ (x2 : Int32) (x3 : Int32) (S : v_Sf), H244 x2 x3 S → D_X12_monthTold_244 H244 K x2 x3 S) (n d : Nat) (S : v_Sf) (hD : D_X12_monthTold H244 K S) : u_P L xs n d m_X12_monthTold 0 (lv_args 0 [.ref 100]) [] S R (z_V R K) := by
  unfold D_X12_monthTold at hD
  show u_P L xs n d m_X12_monthTold 0 [(0, .ref 100)] [] S R _
  refine u_st rfl (fun _ => rfl) ?_
  show u_P L xs n d m_X12_monthTold 1 [(0, .ref 100)] [.ref 100] S R _
  refine u_getE (v := S 99 3) rfl v_tyM rfl rfl ?_
  refine u_st rfl (fun _ => rfl) ?_
  refine u_st rfl (fun _ => rfl) ?_
  show u_P L xs n d m_X12_monthTold 6 [(1, .int (S 99 3)), (0, .ref 100)] [.ref 100] S R _
  refine u_cv (rest := []) rfl (by decide) mt_X12_here v_tyM rfl rfl rfl (Nat.le_of_ble_eq_true rfl) (Nat.le_of_ble_eq_true rfl) (Nat.le_of_ble_eq_true rfl) (fun d' => c_X12_here L xs n d' S R) ?_
  rintro _ _ _ ⟨_, rfl, rfl, rfl, rfl⟩
  refine u_st rfl (fun _ => rfl) ?_
  show u_P L xs n d m_X12_monthTold 11 [(1, .int (S 99 3)), (0, .ref 100)] [.int (Int32.ofInt 41), .int (f_X12_here S)] S R _
  refine u_ic_ne rfl (fun h1 => ?_) (fun h1 => ?_)
  · have hD := hD.1 h1
    show u_P L xs n d m_X12_monthTold 80 [(1, .int (S 99 3)), (0, .ref 100)] [] S R _
    refine u_st rfl (fun _ => rfl) ?_
    show u_P L xs n d m_X12_monthTold 81 [(1, .int (S 99 3)), (0, .ref 100)] [.ref 100] S R _
    refine u_cv (rest := []) rfl (by decide) mt_X12_timesTold v_tyM rfl rfl rfl (Nat.le_of_ble_eq_true rfl) (Nat.le_of_ble_eq_true rfl) (Nat.le_of_ble_eq_true rfl) (fun d' => c_X12_timesTold L xs n d' S R) ?_
    rintro _ _ _ ⟨_, rfl, rfl, rfl, rfl⟩
    refine u_st rfl (fun _ => rfl) ?_
    refine u_st rfl (fun _ => rfl) ?_
    show u_P L xs n d m_X12_monthTold 86 [(2, .int (f_X12_timesTold S)), (1, .int (S 99 3)), (0, .ref 100)] [.ref 100] (g_X12_timesTold S) R _
    refine u_cv (rest := []) rfl (by decide) mt_X12_here v_tyM rfl rfl rfl (Nat.le_of_ble_eq_true rfl) (Nat.le_of_ble_eq_true rfl) (Nat.le_of_ble_eq_true rfl) (fun d' => c_X12_here L xs n d' (g_X12_timesTold S) R) ?_
    rintro _ _ _ ⟨_, rfl, rfl, rfl, rfl⟩
    refine u_st rfl (fun _ => rfl) ?_
    show u_P L xs n d m_X12_monthTold 91 [(2, .int (f_X12_timesTold S)), (1, .int (S 99 3)), (0, .ref 100)] [.int (Int32.ofInt 40), .int (f_X12_here (g_X12_timesTold S))] (g_X12_timesTold S) R _
    refine u_ic_ne rfl (fun h2 => ?_) (fun h2 => ?_)
    · have hD := hD.1 h2
      show u_P L xs n d m_X12_monthTold 178 [(2, .int (f_X12_timesTold S)), (1, .int (S 99 3)), (0, .ref 100)] [] (g_X12_timesTold S) R _
      refine u_st rfl (fun _ => rfl) ?_
      show u_P L xs n d m_X12_monthTold 179 [(2, .int (f_X12_timesTold S)), (1, .int (S 99 3)), (0, .ref 100)] [.ref 100] (g_X12_timesTold S) R _
      refine u_cv (rest := []) rfl (by decide) mt_X12_here v_tyM rfl rfl rfl (Nat.le_of_ble_eq_true rfl) (Nat.le_of_ble_eq_true rfl) (Nat.le_of_ble_eq_true rfl) (fun d' => c_X12_here L xs n d' (g_X12_timesTold S) R) ?_
      rintro _ _ _ ⟨_, rfl, rfl, rfl, rfl⟩
      refine u_st rfl (fun _ => rfl) ?_
      show u_P L xs n d m_X12_monthTold 184 [(2, .int (f_X12_timesTold S)), (1, .int (S 99 3)), (0, .ref 100)] [.int (Int32.ofInt 46), .int (f_X12_here (g_X12_timesTold S))] (g_X12_timesTold S) R _
      refine u_ic_eq rfl (fun h3 => ?_) (fun h3 => ?_)
      · have hD := hD.1 h3
        show u_P L xs n d m_X12_monthTold 216 [(2, .int (f_X12_timesTold S)), (1, .int (S 99 3)), (0, .ref 100)] [] (g_X12_timesTold S) R _
        refine u_st rfl (fun _ => rfl) ?_
        show u_P L xs n d m_X12_monthTold 217 [(2, .int (f_X12_timesTold S)), (1, .int (S 99 3)), (0, .ref 100)] [.ref 100] (g_X12_timesTold S) R _
        refine u_getE (v := (g_X12_timesTold S) 99 64) rfl v_tyM rfl rfl ?_
        refine u_st rfl (fun _ => rfl) ?_
        refine u_st rfl (fun _ => rfl) ?_
        refine u_st rfl (fun _ => rfl) ?_
        show u_P L xs n d m_X12_monthTold 224 [(2, .int (f_X12_timesTold S)), (1, .int (S 99 3)), (0, .ref 100)] [.int (Int32.ofInt 48), .int (((g_X12_timesTold S) 99 64) + (f_X12_timesTold S))] (g_X12_timesTold S) R _
        refine u_ic_le rfl (fun h4 => ?_) (fun h4 => ?_)
        · have hD := hD.1 h4
          show u_P L xs n d m_X12_monthTold 234 [(2, .int (f_X12_timesTold S)), (1, .int (S 99 3)), (0, .ref 100)] [] (g_X12_timesTold S) R _
          refine u_st rfl (fun _ => rfl) ?_
          show u_P L xs n d m_X12_monthTold 235 [(2, .int (f_X12_timesTold S)), (1, .int (S 99 3)), (0, .ref 100)] [.ref 100] (g_X12_timesTold S) R _
          refine u_cv (rest := []) rfl (by decide) mt_X12_isGood v_tyM rfl rfl rfl (Nat.le_of_ble_eq_true rfl) (Nat.le_of_ble_eq_true rfl) (Nat.le_of_ble_eq_true rfl) (fun d' => c_X12_isGood L xs n d' (g_X12_timesTold S) R) ?_
          rintro _ _ _ ⟨_, rfl, rfl, rfl, rfl⟩
          show u_P L xs n d m_X12_monthTold 238 [(2, .int (f_X12_timesTold S)), (1, .int (S 99 3)), (0, .ref 100)] [.int (f_X12_isGood (g_X12_timesTold S))] (g_X12_timesTold S) R _
          refine u_if_ne rfl (fun h5 => ?_) (fun h5 => ?_)
          · have hD := hD.1 h5
            show u_P L xs n d m_X12_monthTold 242 [(2, .int (f_X12_timesTold S)), (1, .int (S 99 3)), (0, .ref 100)] [] (g_X12_timesTold S) R _
            refine u_st rfl (fun _ => rfl) ?_
            refine u_st rfl (fun _ => rfl) ?_
            refine u_lc (b := [(0, .ref 100), (1, .int (S 99 3)), (2, .int (f_X12_timesTold S)), (3, .int (Int32.ofInt 0))]) (show ([3, 2, 1, 0] : List Nat).Nodup by decide) (show ([0, 1, 2, 3] : List Nat).Nodup by decide) (fun i => match i with | 0 => rfl | 1 => rfl | 2 => rfl | 3 => rfl | _ + 4 => rfl) ?_
            exact (hd_X12_monthTold L xs H244 K k244 n) d (S 99 3) (f_X12_timesTold S) (Int32.ofInt 0) (g_X12_timesTold S) hD
          · have hD := hD.2 h5
            show u_P L xs n d m_X12_monthTold 241 [(2, .int (f_X12_timesTold S)), (1, .int (S 99 3)), (0, .ref 100)] [] (g_X12_timesTold S) R _
            exact u_ret rfl rfl ⟨rfl, rfl, hD⟩
        · have hD := hD.2 h4
          show u_P L xs n d m_X12_monthTold 227 [(2, .int (f_X12_timesTold S)), (1, .int (S 99 3)), (0, .ref 100)] [] (g_X12_timesTold S) R _
          refine u_st rfl (fun _ => rfl) ?_
          refine u_st rfl (fun _ => rfl) ?_
          refine u_st rfl (fun _ => rfl) ?_
          show u_P L xs n d m_X12_monthTold 231 [(2, .int (f_X12_timesTold S)), (1, .int (S 99 3)), (0, .ref 100)] [.int (S 99 3), .int (Int32.ofInt 6), .ref 100] (g_X12_timesTold S) R _
          refine u_cv (rest := []) rfl (by decide) mt_X12_wrongs v_tyM rfl rfl rfl (Nat.le_of_ble_eq_true rfl) (Nat.le_of_ble_eq_true rfl) (Nat.le_of_ble_eq_true rfl) (fun d' => c_X12_wrongs L xs n d' (Int32.ofInt 6) (S 99 3) (g_X12_timesTold S) R) ?_
          rintro _ _ _ ⟨rfl, rfl, rfl⟩
          refine u_st rfl (fun _ => rfl) ?_
          show u_P L xs n d m_X12_monthTold 235 [(2, .int (f_X12_timesTold S)), (1, .int (S 99 3)), (0, .ref 100)] [.ref 100] (g_X12_wrongs (Int32.ofInt 6) (S 99 3) (g_X12_timesTold S)) R _
          refine u_cv (rest := []) rfl (by decide) mt_X12_isGood v_tyM rfl rfl rfl (Nat.le_of_ble_eq_true rfl) (Nat.le_of_ble_eq_true rfl) (Nat.le_of_ble_eq_true rfl) (fun d' => c_X12_isGood L xs n d' (g_X12_wrongs (Int32.ofInt 6) (S 99 3) (g_X12_timesTold S)) R) ?_
          rintro _ _ _ ⟨_, rfl, rfl, rfl, rfl⟩
          show u_P L xs n d m_X12_monthTold 238 [(2, .int (f_X12_timesTold S)), (1, .int (S 99 3)), (0, .ref 100)] [.int (f_X12_isGood (g_X12_wrongs (Int32.ofInt 6) (S 99 3) (g_X12_timesTold S)))] (g_X12_wrongs (Int32.ofInt 6) (S 99 3) (g_X12_timesTold S)) R _
          refine u_if_ne rfl (fun h6 => ?_) (fun h6 => ?_)
          · have hD := hD.1 h6
            show u_P L xs n d m_X12_monthTold 242 [(2, .int (f_X12_timesTold S)), (1, .int (S 99 3)), (0, .ref 100)] [] (g_X12_wrongs (Int32.ofInt 6) (S 99 3) (g_X12_timesTold S)) R _
            refine u_st rfl (fun _ => rfl) ?_
            refine u_st rfl (fun _ => rfl) ?_
            refine u_lc (b := [(0, .ref 100), (1, .int (S 99 3)), (2, .int (f_X12_timesTold S)), (3, .int (Int32.ofInt 0))]) (show ([3, 2, 1, 0] : List Nat).Nodup by decide) (show ([0, 1, 2, 3] : List Nat).Nodup by decide) (fun i => match i with | 0 => rfl | 1 => rfl | 2 => rfl | 3 => rfl | _ + 4 => rfl) ?_
            exact (hd_X12_monthTold L xs H244 K k244 n) d (S 99 3) (f_X12_timesTold S) (Int32.ofInt 0) (g_X12_wrongs (Int32.ofInt 6) (S 99 3) (g_X12_timesTold S)) hD
          · have hD := hD.2 h6
            show u_P L xs n d m_X12_monthTold 241 [(2, .int (f_X12_timesTold S)), (1, .int (S 99 3)), (0, .ref 100)] [] (g_X12_wrongs (Int32.ofInt 6) (S 99 3) (g_X12_timesTold S)) R _
            exact u_ret rfl rfl ⟨rfl, rfl, hD⟩
      · have hD := hD.2 h3
        show u_P L xs n d m_X12_monthTold 187 [(2, .int (f_X12_timesTold S)), (1, .int (S 99 3)), (0, .ref 100)] [] (g_X12_timesTold S) R _
        refine u_st rfl (fun _ => rfl) ?_
        show u_P L xs n d m_X12_monthTold 188 [(2, .int (f_X12_timesTold S)), (1, .int (S 99 3)), (0, .ref 100)] [.ref 100] (g_X12_timesTold S) R _
        refine u_cv (rest := []) rfl (by decide) mt_X12_here v_tyM rfl rfl rfl (Nat.le_of_ble_eq_true rfl) (Nat.le_of_ble_eq_true rfl) (Nat.le_of_ble_eq_true rfl) (fun d' => c_X12_here L xs n d' (g_X12_timesTold S) R) ?_
        rintro _ _ _ ⟨_, rfl, rfl, rfl, rfl⟩
        refine u_st rfl (fun _ => rfl) ?_
        refine u_st rfl (fun _ => rfl) ?_
        refine u_st rfl (fun _ => rfl) ?_
        show u_P L xs n d m_X12_monthTold 198 [(2, .int (f_X12_timesTold S)), (1, .int (S 99 3)), (0, .ref 100)] [.long (Int64.ofInt 74), .long (Int64.ofInt 65), .long ((f_X12_here (g_X12_timesTold S)).toInt64)] (g_X12_timesTold S) R _
        refine u_cs (ac := [.long ((f_X12_here (g_X12_timesTold S)).toInt64), .long (Int64.ofInt 65), .long (Int64.ofInt 74)]) (rest := []) rfl (by decide) mt_X12_lies (fun _ => rfl) (Nat.le_of_ble_eq_true rfl) (Nat.le_of_ble_eq_true rfl) (fun d' => z_liesC L xs n d' ((f_X12_here (g_X12_timesTold S))) (Int64.ofInt 65) (Int64.ofInt 74) (lo := 65) (hi := 74) rfl rfl (g_X12_timesTold S) R) ?_
        rintro _ _ _ ⟨_, rfl, rfl, rfl, rfl⟩
        show u_P L xs n d m_X12_monthTold 201 [(2, .int (f_X12_timesTold S)), (1, .int (S 99 3)), (0, .ref 100)] [.int (z_in ((f_X12_here (g_X12_timesTold S))) 65 74)] (g_X12_timesTold S) R _
        refine u_if_ne rfl (fun h7 => ?_) (fun h7 => ?_)
        · have hD := hD.1 h7
          show u_P L xs n d m_X12_monthTold 216 [(2, .int (f_X12_timesTold S)), (1, .int (S 99 3)), (0, .ref 100)] [] (g_X12_timesTold S) R _
          refine u_st rfl (fun _ => rfl) ?_
          show u_P L xs n d m_X12_monthTold 217 [(2, .int (f_X12_timesTold S)), (1, .int (S 99 3)), (0, .ref 100)] [.ref 100] (g_X12_timesTold S) R _
          refine u_getE (v := (g_X12_timesTold S) 99 64) rfl v_tyM rfl rfl ?_
          refine u_st rfl (fun _ => rfl) ?_
          refine u_st rfl (fun _ => rfl) ?_
          refine u_st rfl (fun _ => rfl) ?_
          show u_P L xs n d m_X12_monthTold 224 [(2, .int (f_X12_timesTold S)), (1, .int (S 99 3)), (0, .ref 100)] [.int (Int32.ofInt 48), .int (((g_X12_timesTold S) 99 64) + (f_X12_timesTold S))] (g_X12_timesTold S) R _
          refine u_ic_le rfl (fun h8 => ?_) (fun h8 => ?_)
          · have hD := hD.1 h8
            show u_P L xs n d m_X12_monthTold 234 [(2, .int (f_X12_timesTold S)), (1, .int (S 99 3)), (0, .ref 100)] [] (g_X12_timesTold S) R _
            refine u_st rfl (fun _ => rfl) ?_
            show u_P L xs n d m_X12_monthTold 235 [(2, .int (f_X12_timesTold S)), (1, .int (S 99 3)), (0, .ref 100)] [.ref 100] (g_X12_timesTold S) R _
            refine u_cv (rest := []) rfl (by decide) mt_X12_isGood v_tyM rfl rfl rfl (Nat.le_of_ble_eq_true rfl) (Nat.le_of_ble_eq_true rfl) (Nat.le_of_ble_eq_true rfl) (fun d' => c_X12_isGood L xs n d' (g_X12_timesTold S) R) ?_
            rintro _ _ _ ⟨_, rfl, rfl, rfl, rfl⟩
            show u_P L xs n d m_X12_monthTold 238 [(2, .int (f_X12_timesTold S)), (1, .int (S 99 3)), (0, .ref 100)] [.int (f_X12_isGood (g_X12_timesTold S))] (g_X12_timesTold S) R _
            refine u_if_ne rfl (fun h9 => ?_) (fun h9 => ?_)
            · have hD := hD.1 h9
              show u_P L xs n d m_X12_monthTold 242 [(2, .int (f_X12_timesTold S)), (1, .int (S 99 3)), (0, .ref 100)] [] (g_X12_timesTold S) R _
              refine u_st rfl (fun _ => rfl) ?_
              refine u_st rfl (fun _ => rfl) ?_
              refine u_lc (b := [(0, .ref 100), (1, .int (S 99 3)), (2, .int (f_X12_timesTold S)), (3, .int (Int32.ofInt 0))]) (show ([3, 2, 1, 0] : List Nat).Nodup by decide) (show ([0, 1, 2, 3] : List Nat).Nodup by decide) (fun i => match i with | 0 => rfl | 1 => rfl | 2 => rfl | 3 => rfl | _ + 4 => rfl) ?_
              exact (hd_X12_monthTold L xs H244 K k244 n) d (S 99 3) (f_X12_timesTold S) (Int32.ofInt 0) (g_X12_timesTold S) hD
            · have hD := hD.2 h9
              show u_P L xs n d m_X12_monthTold 241 [(2, .int (f_X12_timesTold S)), (1, .int (S 99 3)), (0, .ref 100)] [] (g_X12_timesTold S) R _
              exact u_ret rfl rfl ⟨rfl, rfl, hD⟩
          · have hD := hD.2 h8
            show u_P L xs n d m_X12_monthTold 227 [(2, .int (f_X12_timesTold S)), (1, .int (S 99 3)), (0, .ref 100)] [] (g_X12_timesTold S) R _
            refine u_st rfl (fun _ => rfl) ?_
            refine u_st rfl (fun _ => rfl) ?_
            refine u_st rfl (fun _ => rfl) ?_
            show u_P L xs n d m_X12_monthTold 231 [(2, .int (f_X12_timesTold S)), (1, .int (S 99 3)), (0, .ref 100)] [.int (S 99 3), .int (Int32.ofInt 6), .ref 100] (g_X12_timesTold S) R _
            refine u_cv (rest := []) rfl (by decide) mt_X12_wrongs v_tyM rfl rfl rfl (Nat.le_of_ble_eq_true rfl) (Nat.le_of_ble_eq_true rfl) (Nat.le_of_ble_eq_true rfl) (fun d' => c_X12_wrongs L xs n d' (Int32.ofInt 6) (S 99 3) (g_X12_timesTold S) R) ?_
            rintro _ _ _ ⟨rfl, rfl, rfl⟩
            refine u_st rfl (fun _ => rfl) ?_
            show u_P L xs n d m_X12_monthTold 235 [(2, .int (f_X12_timesTold S)), (1, .int (S 99 3)), (0, .ref 100)] [.ref 100] (g_X12_wrongs (Int32.ofInt 6) (S 99 3) (g_X12_timesTold S)) R _
            refine u_cv (rest := []) rfl (by decide) mt_X12_isGood v_tyM rfl rfl rfl (Nat.le_of_ble_eq_true rfl) (Nat.le_of_ble_eq_true rfl) (Nat.le_of_ble_eq_true rfl) (fun d' => c_X12_isGood L xs n d' (g_X12_wrongs (Int32.ofInt 6) (S 99 3) (g_X12_timesTold S)) R) ?_
            rintro _ _ _ ⟨_, rfl, rfl, rfl, rfl⟩
            show u_P L xs n d m_X12_monthTold 238 [(2, .int (f_X12_timesTold S)), (1, .int (S 99 3)), (0, .ref 100)] [.int (f_X12_isGood (g_X12_wrongs (Int32.ofInt 6) (S 99 3) (g_X12_timesTold S)))] (g_X12_wrongs (Int32.ofInt 6) (S 99 3) (g_X12_timesTold S)) R _
            refine u_if_ne rfl (fun h10 => ?_) (fun h10 => ?_)
            · have hD := hD.1 h10
              show u_P L xs n d m_X12_monthTold 242 [(2, .int (f_X12_timesTold S)), (1, .int (S 99 3)), (0, .ref 100)] [] (g_X12_wrongs (Int32.ofInt 6) (S 99 3) (g_X12_timesTold S)) R _
              refine u_st rfl (fun _ => rfl) ?_
              refine u_st rfl (fun _ => rfl) ?_
              refine u_lc (b := [(0, .ref 100), (1, .int (S 99 3)), (2, .int (f_X12_timesTold S)), (3, .int (Int32.ofInt 0))]) (show ([3, 2, 1, 0] : List Nat).Nodup by decide) (show ([0, 1, 2, 3] : List Nat).Nodup by decide) (fun i => match i with | 0 => rfl | 1 => rfl | 2 => rfl | 3 => rfl | _ + 4 => rfl) ?_
              exact (hd_X12_monthTold L xs H244 K k244 n) d (S 99 3) (f_X12_timesTold S) (Int32.ofInt 0) (g_X12_wrongs (Int32.ofInt 6) (S 99 3) (g_X12_timesTold S)) hD
            · have hD := hD.2 h10
              show u_P L xs n d m_X12_monthTold 241 [(2, .int (f_X12_timesTold S)), (1, .int (S 99 3)), (0, .ref 100)] [] (g_X12_wrongs (Int32.ofInt 6) (S 99 3) (g_X12_timesTold S)) R _
              exact u_ret rfl rfl ⟨rfl, rfl, hD⟩
        · have hD := hD.2 h7
          show u_P L xs n d m_X12_monthTold 204 [(2, .int (f_X12_timesTold S)), (1, .int (S 99 3)), (0, .ref 100)] [] (g_X12_timesTold S) R _
          refine u_st rfl (fun _ => rfl) ?_
          refine u_st rfl (fun _ => rfl) ?_
          refine u_st rfl (fun _ => rfl) ?_
          show u_P L xs n d m_X12_monthTold 207 [(2, .int (f_X12_timesTold S)), (1, .int (S 99 3)), (0, .ref 100)] [.ref 100, .int (Int32.ofInt 1), .ref 100] (g_X12_timesTold S) R _
          refine u_getE (v := (g_X12_timesTold S) 99 3) rfl v_tyM rfl rfl ?_
          show u_P L xs n d m_X12_monthTold 210 [(2, .int (f_X12_timesTold S)), (1, .int (S 99 3)), (0, .ref 100)] [.int ((g_X12_timesTold S) 99 3), .int (Int32.ofInt 1), .ref 100] (g_X12_timesTold S) R _
          refine u_cv (rest := []) rfl (by decide) mt_X12_wrongs v_tyM rfl rfl rfl (Nat.le_of_ble_eq_true rfl) (Nat.le_of_ble_eq_true rfl) (Nat.le_of_ble_eq_true rfl) (fun d' => c_X12_wrongs L xs n d' (Int32.ofInt 1) ((g_X12_timesTold S) 99 3) (g_X12_timesTold S) R) ?_
          rintro _ _ _ ⟨rfl, rfl, rfl⟩
          refine u_st rfl (fun _ => rfl) ?_
          refine u_st rfl (fun _ => rfl) ?_
          show u_P L xs n d m_X12_monthTold 235 [(2, .int (f_X12_timesTold S)), (1, .int (S 99 3)), (0, .ref 100)] [.ref 100] (g_X12_wrongs (Int32.ofInt 1) ((g_X12_timesTold S) 99 3) (g_X12_timesTold S)) R _
          refine u_cv (rest := []) rfl (by decide) mt_X12_isGood v_tyM rfl rfl rfl (Nat.le_of_ble_eq_true rfl) (Nat.le_of_ble_eq_true rfl) (Nat.le_of_ble_eq_true rfl) (fun d' => c_X12_isGood L xs n d' (g_X12_wrongs (Int32.ofInt 1) ((g_X12_timesTold S) 99 3) (g_X12_timesTold S)) R) ?_
          rintro _ _ _ ⟨_, rfl, rfl, rfl, rfl⟩
          show u_P L xs n d m_X12_monthTold 238 [(2, .int (f_X12_timesTold S)), (1, .int (S 99 3)), (0, .ref 100)] [.int (f_X12_isGood (g_X12_wrongs (Int32.ofInt 1) ((g_X12_timesTold S) 99 3) (g_X12_timesTold S)))] (g_X12_wrongs (Int32.ofInt 1) ((g_X12_timesTold S) 99 3) (g_X12_timesTold S)) R _
          refine u_if_ne rfl (fun h11 => ?_) (fun h11 => ?_)
          · have hD := hD.1 h11
            show u_P L xs n d m_X12_monthTold 242 [(2, .int (f_X12_timesTold S)), (1, .int (S 99 3)), (0, .ref 100)] [] (g_X12_wrongs (Int32.ofInt 1) ((g_X12_timesTold S) 99 3) (g_X12_timesTold S)) R _
            refine u_st rfl (fun _ => rfl) ?_
            refine u_st rfl (fun _ => rfl) ?_
            refine u_lc (b := [(0, .ref 100), (1, .int (S 99 3)), (2, .int (f_X12_timesTold S)), (3, .int (Int32.ofInt 0))]) (show ([3, 2, 1, 0] : List Nat).Nodup by decide) (show ([0, 1, 2, 3] : List Nat).Nodup by decide) (fun i => match i with | 0 => rfl | 1 => rfl | 2 => rfl | 3 => rfl | _ + 4 => rfl) ?_
            exact (hd_X12_monthTold L xs H244 K k244 n) d (S 99 3) (f_X12_timesTold S) (Int32.ofInt 0) (g_X12_wrongs (Int32.ofInt 1) ((g_X12_timesTold S) 99 3) (g_X12_timesTold S)) hD
          · have hD := hD.2 h11
            show u_P L xs n d m_X12_monthTold 241 [(2, .int (f_X12_timesTold S)), (1, .int (S 99 3)), (0, .ref 100)] [] (g_X12_wrongs (Int32.ofInt 1) ((g_X12_timesTold S) 99 3) (g_X12_timesTold S)) R _
            exact u_ret rfl rfl ⟨rfl, rfl, hD⟩
    · have hD := hD.2 h2
      show u_P L xs n d m_X12_monthTold 94 [(2, .int (f_X12_timesTold S)), (1, .int (S 99 3)), (0, .ref 100)] [] (g_X12_timesTold S) R _
      refine u_st rfl (fun _ => rfl) ?_
      show u_P L xs n d m_X12_monthTold 95 [(2, .int (f_X12_timesTold S)), (1, .int (S 99 3)), (0, .ref 100)] [.ref 100] (g_X12_timesTold S) R _
      refine u_getE (v := (g_X12_timesTold S) 99 65) rfl v_tyM rfl rfl ?_
      refine u_st rfl (fun _ => rfl) ?_
      show u_P L xs n d m_X12_monthTold 99 [(2, .int (f_X12_timesTold S)), (1, .int (S 99 3)), (0, .ref 100)] [.int (Int32.ofInt 2), .int ((g_X12_timesTold S) 99 65)] (g_X12_timesTold S) R _
      refine u_ic_ne rfl (fun h12 => ?_) (fun h12 => ?_)
      · have hD := hD.1 h12
        show u_P L xs n d m_X12_monthTold 111 [(2, .int (f_X12_timesTold S)), (1, .int (S 99 3)), (0, .ref 100)] [] (g_X12_timesTold S) R _
        refine u_st rfl (fun _ => rfl) ?_
        show u_P L xs n d m_X12_monthTold 112 [(2, .int (f_X12_timesTold S)), (1, .int (S 99 3)), (0, .ref 100)] [.ref 100] (g_X12_timesTold S) R _
        refine u_cv (rest := []) rfl (by decide) mt_X12_isGood v_tyM rfl rfl rfl (Nat.le_of_ble_eq_true rfl) (Nat.le_of_ble_eq_true rfl) (Nat.le_of_ble_eq_true rfl) (fun d' => c_X12_isGood L xs n d' (g_X12_timesTold S) R) ?_
        rintro _ _ _ ⟨_, rfl, rfl, rfl, rfl⟩
        show u_P L xs n d m_X12_monthTold 115 [(2, .int (f_X12_timesTold S)), (1, .int (S 99 3)), (0, .ref 100)] [.int (f_X12_isGood (g_X12_timesTold S))] (g_X12_timesTold S) R _
        refine u_if_ne rfl (fun h13 => ?_) (fun h13 => ?_)
        · have hD := hD.1 h13
          show u_P L xs n d m_X12_monthTold 119 [(2, .int (f_X12_timesTold S)), (1, .int (S 99 3)), (0, .ref 100)] [] (g_X12_timesTold S) R _
          refine u_st rfl (fun _ => rfl) ?_
          show u_P L xs n d m_X12_monthTold 120 [(2, .int (f_X12_timesTold S)), (1, .int (S 99 3)), (0, .ref 100)] [.ref 100] (g_X12_timesTold S) R _
          refine u_getr rfl v_tyM rfl ?_
          refine u_st rfl (fun _ => rfl) ?_
          show u_P L xs n d m_X12_monthTold 124 [(2, .int (f_X12_timesTold S)), (1, .int (S 99 3)), (0, .ref 100)] [.ref 100, .ref 135] (g_X12_timesTold S) R _
          refine u_getE (v := (g_X12_timesTold S) 99 65) rfl v_tyM rfl rfl ?_
          refine u_st rfl (fun _ => rfl) ?_
          show u_P L xs n d m_X12_monthTold 128 [(2, .int (f_X12_timesTold S)), (1, .int (S 99 3)), (0, .ref 100)] [.ref 100, .int ((g_X12_timesTold S) 99 65), .ref 135] (g_X12_timesTold S) R _
          refine u_getE (v := (g_X12_timesTold S) 99 64) rfl v_tyM rfl rfl ?_
          show u_P L xs n d m_X12_monthTold 131 [(2, .int (f_X12_timesTold S)), (1, .int (S 99 3)), (0, .ref 100)] [.int ((g_X12_timesTold S) 99 64), .int ((g_X12_timesTold S) 99 65), .ref 135] (g_X12_timesTold S) R _
          refine u_iast rfl rfl (fun b141 b142 => ?_)
          have hD := hD b141 b142
          show u_P L xs n d m_X12_monthTold 132 [(2, .int (f_X12_timesTold S)), (1, .int (S 99 3)), (0, .ref 100)] [] (z_s (g_X12_timesTold S) 134 (((g_X12_timesTold S) 99 65).toInt.toNat) ((g_X12_timesTold S) 99 64)) R _
          refine u_st rfl (fun _ => rfl) ?_
          show u_P L xs n d m_X12_monthTold 133 [(2, .int (f_X12_timesTold S)), (1, .int (S 99 3)), (0, .ref 100)] [.ref 100] (z_s (g_X12_timesTold S) 134 (((g_X12_timesTold S) 99 65).toInt.toNat) ((g_X12_timesTold S) 99 64)) R _
          refine u_getr rfl v_tyM rfl ?_
          refine u_st rfl (fun _ => rfl) ?_
          show u_P L xs n d m_X12_monthTold 137 [(2, .int (f_X12_timesTold S)), (1, .int (S 99 3)), (0, .ref 100)] [.ref 100, .ref 136] (z_s (g_X12_timesTold S) 134 (((g_X12_timesTold S) 99 65).toInt.toNat) ((g_X12_timesTold S) 99 64)) R _
          refine u_getE (v := (g_X12_timesTold S) 99 65) rfl v_tyM rfl (z_sn (fun h => absurd h.1 (by decide))) ?_
          refine u_st rfl (fun _ => rfl) ?_
          show u_P L xs n d m_X12_monthTold 141 [(2, .int (f_X12_timesTold S)), (1, .int (S 99 3)), (0, .ref 100)] [.int (f_X12_timesTold S), .int ((g_X12_timesTold S) 99 65), .ref 136] (z_s (g_X12_timesTold S) 134 (((g_X12_timesTold S) 99 65).toInt.toNat) ((g_X12_timesTold S) 99 64)) R _
          refine u_iast rfl rfl (fun b151 b152 => ?_)
          have hD := hD b151 b152
          show u_P L xs n d m_X12_monthTold 142 [(2, .int (f_X12_timesTold S)), (1, .int (S 99 3)), (0, .ref 100)] [] (z_s (z_s (g_X12_timesTold S) 134 (((g_X12_timesTold S) 99 65).toInt.toNat) ((g_X12_timesTold S) 99 64)) 135 (((g_X12_timesTold S) 99 65).toInt.toNat) (f_X12_timesTold S)) R _
          refine u_st rfl (fun _ => rfl) ?_
          show u_P L xs n d m_X12_monthTold 143 [(2, .int (f_X12_timesTold S)), (1, .int (S 99 3)), (0, .ref 100)] [.ref 100] (z_s (z_s (g_X12_timesTold S) 134 (((g_X12_timesTold S) 99 65).toInt.toNat) ((g_X12_timesTold S) 99 64)) 135 (((g_X12_timesTold S) 99 65).toInt.toNat) (f_X12_timesTold S)) R _
          refine u_getr rfl v_tyM rfl ?_
          refine u_st rfl (fun _ => rfl) ?_
          show u_P L xs n d m_X12_monthTold 147 [(2, .int (f_X12_timesTold S)), (1, .int (S 99 3)), (0, .ref 100)] [.ref 100, .ref 137] (z_s (z_s (g_X12_timesTold S) 134 (((g_X12_timesTold S) 99 65).toInt.toNat) ((g_X12_timesTold S) 99 64)) 135 (((g_X12_timesTold S) 99 65).toInt.toNat) (f_X12_timesTold S)) R _
          refine u_getE (v := (g_X12_timesTold S) 99 65) rfl v_tyM rfl ((z_sn (fun h => absurd h.1 (by decide))).trans (z_sn (fun h => absurd h.1 (by decide)))) ?_
          refine u_st rfl (fun _ => rfl) ?_
          show u_P L xs n d m_X12_monthTold 151 [(2, .int (f_X12_timesTold S)), (1, .int (S 99 3)), (0, .ref 100)] [.int (S 99 3), .int ((g_X12_timesTold S) 99 65), .ref 137] (z_s (z_s (g_X12_timesTold S) 134 (((g_X12_timesTold S) 99 65).toInt.toNat) ((g_X12_timesTold S) 99 64)) 135 (((g_X12_timesTold S) 99 65).toInt.toNat) (f_X12_timesTold S)) R _
          refine u_iast rfl rfl (fun b161 b162 => ?_)
          have hD := hD b161 b162
          show u_P L xs n d m_X12_monthTold 152 [(2, .int (f_X12_timesTold S)), (1, .int (S 99 3)), (0, .ref 100)] [] (z_s (z_s (z_s (g_X12_timesTold S) 134 (((g_X12_timesTold S) 99 65).toInt.toNat) ((g_X12_timesTold S) 99 64)) 135 (((g_X12_timesTold S) 99 65).toInt.toNat) (f_X12_timesTold S)) 136 (((g_X12_timesTold S) 99 65).toInt.toNat) (S 99 3)) R _
          refine u_st rfl (fun _ => rfl) ?_
          refine u_st rfl (fun _ => rfl) ?_
          show u_P L xs n d m_X12_monthTold 154 [(2, .int (f_X12_timesTold S)), (1, .int (S 99 3)), (0, .ref 100)] [.ref 100, .ref 100] (z_s (z_s (z_s (g_X12_timesTold S) 134 (((g_X12_timesTold S) 99 65).toInt.toNat) ((g_X12_timesTold S) 99 64)) 135 (((g_X12_timesTold S) 99 65).toInt.toNat) (f_X12_timesTold S)) 136 (((g_X12_timesTold S) 99 65).toInt.toNat) (S 99 3)) R _
          refine u_getE (v := (g_X12_timesTold S) 99 65) rfl v_tyM rfl ((z_sn (fun h => absurd h.1 (by decide))).trans ((z_sn (fun h => absurd h.1 (by decide))).trans (z_sn (fun h => absurd h.1 (by decide))))) ?_
          refine u_st rfl (fun _ => rfl) ?_
          refine u_st rfl (fun _ => rfl) ?_
          show u_P L xs n d m_X12_monthTold 159 [(2, .int (f_X12_timesTold S)), (1, .int (S 99 3)), (0, .ref 100)] [.int (((g_X12_timesTold S) 99 65) + (Int32.ofInt 1)), .ref 100] (z_s (z_s (z_s (g_X12_timesTold S) 134 (((g_X12_timesTold S) 99 65).toInt.toNat) ((g_X12_timesTold S) 99 64)) 135 (((g_X12_timesTold S) 99 65).toInt.toNat) (f_X12_timesTold S)) 136 (((g_X12_timesTold S) 99 65).toInt.toNat) (S 99 3)) R _
          refine u_put rfl v_tyM rfl ?_
          refine u_st rfl (fun _ => rfl) ?_
          refine u_st rfl (fun _ => rfl) ?_
          show u_P L xs n d m_X12_monthTold 164 [(2, .int (f_X12_timesTold S)), (1, .int (S 99 3)), (0, .ref 100)] [.int (Int32.ofInt 0), .ref 100] (z_s (z_s (z_s (z_s (g_X12_timesTold S) 134 (((g_X12_timesTold S) 99 65).toInt.toNat) ((g_X12_timesTold S) 99 64)) 135 (((g_X12_timesTold S) 99 65).toInt.toNat) (f_X12_timesTold S)) 136 (((g_X12_timesTold S) 99 65).toInt.toNat) (S 99 3)) 99 65 (((g_X12_timesTold S) 99 65) + (Int32.ofInt 1))) R _
          refine u_put rfl v_tyM rfl ?_
          refine u_st rfl (fun _ => rfl) ?_
          refine u_st rfl (fun _ => rfl) ?_
          show u_P L xs n d m_X12_monthTold 169 [(2, .int (f_X12_timesTold S)), (1, .int (S 99 3)), (0, .ref 100)] [.ref 100, .ref 100] (z_s (z_s (z_s (z_s (z_s (g_X12_timesTold S) 134 (((g_X12_timesTold S) 99 65).toInt.toNat) ((g_X12_timesTold S) 99 64)) 135 (((g_X12_timesTold S) 99 65).toInt.toNat) (f_X12_timesTold S)) 136 (((g_X12_timesTold S) 99 65).toInt.toNat) (S 99 3)) 99 65 (((g_X12_timesTold S) 99 65) + (Int32.ofInt 1))) 99 66 (Int32.ofInt 0)) R _
          refine u_getE (v := (g_X12_timesTold S) 99 3) rfl v_tyM rfl ((z_sn (fun h => absurd h.2 (by decide))).trans ((z_sn (fun h => absurd h.2 (by decide))).trans ((z_sn (fun h => absurd h.1 (by decide))).trans ((z_sn (fun h => absurd h.1 (by decide))).trans (z_sn (fun h => absurd h.1 (by decide))))))) ?_
          refine u_st rfl (fun _ => rfl) ?_
          refine u_st rfl (fun _ => rfl) ?_
          show u_P L xs n d m_X12_monthTold 174 [(2, .int (f_X12_timesTold S)), (1, .int (S 99 3)), (0, .ref 100)] [.int (((g_X12_timesTold S) 99 3) + (Int32.ofInt 1)), .ref 100] (z_s (z_s (z_s (z_s (z_s (g_X12_timesTold S) 134 (((g_X12_timesTold S) 99 65).toInt.toNat) ((g_X12_timesTold S) 99 64)) 135 (((g_X12_timesTold S) 99 65).toInt.toNat) (f_X12_timesTold S)) 136 (((g_X12_timesTold S) 99 65).toInt.toNat) (S 99 3)) 99 65 (((g_X12_timesTold S) 99 65) + (Int32.ofInt 1))) 99 66 (Int32.ofInt 0)) R _
          refine u_put rfl v_tyM rfl ?_
          show u_P L xs n d m_X12_monthTold 177 [(2, .int (f_X12_timesTold S)), (1, .int (S 99 3)), (0, .ref 100)] [] (z_s (z_s (z_s (z_s (z_s (z_s (g_X12_timesTold S) 134 (((g_X12_timesTold S) 99 65).toInt.toNat) ((g_X12_timesTold S) 99 64)) 135 (((g_X12_timesTold S) 99 65).toInt.toNat) (f_X12_timesTold S)) 136 (((g_X12_timesTold S) 99 65).toInt.toNat) (S 99 3)) 99 65 (((g_X12_timesTold S) 99 65) + (Int32.ofInt 1))) 99 66 (Int32.ofInt 0)) 99 3 (((g_X12_timesTold S) 99 3) + (Int32.ofInt 1))) R _
          exact u_ret rfl rfl ⟨rfl, rfl, hD⟩
        · have hD := hD.2 h13
          show u_P L xs n d m_X12_monthTold 118 [(2, .int (f_X12_timesTold S)), (1, .int (S 99 3)), (0, .ref 100)] [] (g_X12_timesTold S) R _
          exact u_ret rfl rfl ⟨rfl, rfl, hD⟩
      · have hD := hD.2 h12
        show u_P L xs n d m_X12_monthTold 102 [(2, .int (f_X12_timesTold S)), (1, .int (S 99 3)), (0, .ref 100)] [] (g_X12_timesTold S) R _
        refine u_st rfl (fun _ => rfl) ?_
        refine u_st rfl (fun _ => rfl) ?_
        refine u_st rfl (fun _ => rfl) ?_
        show u_P L xs n d m_X12_monthTold 105 [(2, .int (f_X12_timesTold S)), (1, .int (S 99 3)), (0, .ref 100)] [.ref 100, .int (Int32.ofInt 5), .ref 100] (g_X12_timesTold S) R _
        refine u_getE (v := (g_X12_timesTold S) 99 3) rfl v_tyM rfl rfl ?_
        show u_P L xs n d m_X12_monthTold 108 [(2, .int (f_X12_timesTold S)), (1, .int (S 99 3)), (0, .ref 100)] [.int ((g_X12_timesTold S) 99 3), .int (Int32.ofInt 5), .ref 100] (g_X12_timesTold S) R _
        refine u_cv (rest := []) rfl (by decide) mt_X12_wrongs v_tyM rfl rfl rfl (Nat.le_of_ble_eq_true rfl) (Nat.le_of_ble_eq_true rfl) (Nat.le_of_ble_eq_true rfl) (fun d' => c_X12_wrongs L xs n d' (Int32.ofInt 5) ((g_X12_timesTold S) 99 3) (g_X12_timesTold S) R) ?_
        rintro _ _ _ ⟨rfl, rfl, rfl⟩
        refine u_st rfl (fun _ => rfl) ?_
        show u_P L xs n d m_X12_monthTold 112 [(2, .int (f_X12_timesTold S)), (1, .int (S 99 3)), (0, .ref 100)] [.ref 100] (g_X12_wrongs (Int32.ofInt 5) ((g_X12_timesTold S) 99 3) (g_X12_timesTold S)) R _
        refine u_cv (rest := []) rfl (by decide) mt_X12_isGood v_tyM rfl rfl rfl (Nat.le_of_ble_eq_true rfl) (Nat.le_of_ble_eq_true rfl) (Nat.le_of_ble_eq_true rfl) (fun d' => c_X12_isGood L xs n d' (g_X12_wrongs (Int32.ofInt 5) ((g_X12_timesTold S) 99 3) (g_X12_timesTold S)) R) ?_
        rintro _ _ _ ⟨_, rfl, rfl, rfl, rfl⟩
        show u_P L xs n d m_X12_monthTold 115 [(2, .int (f_X12_timesTold S)), (1, .int (S 99 3)), (0, .ref 100)] [.int (f_X12_isGood (g_X12_wrongs (Int32.ofInt 5) ((g_X12_timesTold S) 99 3) (g_X12_timesTold S)))] (g_X12_wrongs (Int32.ofInt 5) ((g_X12_timesTold S) 99 3) (g_X12_timesTold S)) R _
        refine u_if_ne rfl (fun h17 => ?_) (fun h17 => ?_)
        · have hD := hD.1 h17
          show u_P L xs n d m_X12_monthTold 119 [(2, .int (f_X12_timesTold S)), (1, .int (S 99 3)), (0, .ref 100)] [] (g_X12_wrongs (Int32.ofInt 5) ((g_X12_timesTold S) 99 3) (g_X12_timesTold S)) R _
          refine u_st rfl (fun _ => rfl) ?_
          show u_P L xs n d m_X12_monthTold 120 [(2, .int (f_X12_timesTold S)), (1, .int (S 99 3)), (0, .ref 100)] [.ref 100] (g_X12_wrongs (Int32.ofInt 5) ((g_X12_timesTold S) 99 3) (g_X12_timesTold S)) R _
          refine u_getr rfl v_tyM rfl ?_
          refine u_st rfl (fun _ => rfl) ?_
          show u_P L xs n d m_X12_monthTold 124 [(2, .int (f_X12_timesTold S)), (1, .int (S 99 3)), (0, .ref 100)] [.ref 100, .ref 135] (g_X12_wrongs (Int32.ofInt 5) ((g_X12_timesTold S) 99 3) (g_X12_timesTold S)) R _
          refine u_getE (v := (g_X12_wrongs (Int32.ofInt 5) ((g_X12_timesTold S) 99 3) (g_X12_timesTold S)) 99 65) rfl v_tyM rfl rfl ?_
          refine u_st rfl (fun _ => rfl) ?_
          show u_P L xs n d m_X12_monthTold 128 [(2, .int (f_X12_timesTold S)), (1, .int (S 99 3)), (0, .ref 100)] [.ref 100, .int ((g_X12_wrongs (Int32.ofInt 5) ((g_X12_timesTold S) 99 3) (g_X12_timesTold S)) 99 65), .ref 135] (g_X12_wrongs (Int32.ofInt 5) ((g_X12_timesTold S) 99 3) (g_X12_timesTold S)) R _
          refine u_getE (v := (g_X12_wrongs (Int32.ofInt 5) ((g_X12_timesTold S) 99 3) (g_X12_timesTold S)) 99 64) rfl v_tyM rfl rfl ?_
          show u_P L xs n d m_X12_monthTold 131 [(2, .int (f_X12_timesTold S)), (1, .int (S 99 3)), (0, .ref 100)] [.int ((g_X12_wrongs (Int32.ofInt 5) ((g_X12_timesTold S) 99 3) (g_X12_timesTold S)) 99 64), .int ((g_X12_wrongs (Int32.ofInt 5) ((g_X12_timesTold S) 99 3) (g_X12_timesTold S)) 99 65), .ref 135] (g_X12_wrongs (Int32.ofInt 5) ((g_X12_timesTold S) 99 3) (g_X12_timesTold S)) R _
          refine u_iast rfl rfl (fun b181 b182 => ?_)
          have hD := hD b181 b182
          show u_P L xs n d m_X12_monthTold 132 [(2, .int (f_X12_timesTold S)), (1, .int (S 99 3)), (0, .ref 100)] [] (z_s (g_X12_wrongs (Int32.ofInt 5) ((g_X12_timesTold S) 99 3) (g_X12_timesTold S)) 134 (((g_X12_wrongs (Int32.ofInt 5) ((g_X12_timesTold S) 99 3) (g_X12_timesTold S)) 99 65).toInt.toNat) ((g_X12_wrongs (Int32.ofInt 5) ((g_X12_timesTold S) 99 3) (g_X12_timesTold S)) 99 64)) R _
          refine u_st rfl (fun _ => rfl) ?_
          show u_P L xs n d m_X12_monthTold 133 [(2, .int (f_X12_timesTold S)), (1, .int (S 99 3)), (0, .ref 100)] [.ref 100] (z_s (g_X12_wrongs (Int32.ofInt 5) ((g_X12_timesTold S) 99 3) (g_X12_timesTold S)) 134 (((g_X12_wrongs (Int32.ofInt 5) ((g_X12_timesTold S) 99 3) (g_X12_timesTold S)) 99 65).toInt.toNat) ((g_X12_wrongs (Int32.ofInt 5) ((g_X12_timesTold S) 99 3) (g_X12_timesTold S)) 99 64)) R _
          refine u_getr rfl v_tyM rfl ?_
          refine u_st rfl (fun _ => rfl) ?_
          show u_P L xs n d m_X12_monthTold 137 [(2, .int (f_X12_timesTold S)), (1, .int (S 99 3)), (0, .ref 100)] [.ref 100, .ref 136] (z_s (g_X12_wrongs (Int32.ofInt 5) ((g_X12_timesTold S) 99 3) (g_X12_timesTold S)) 134 (((g_X12_wrongs (Int32.ofInt 5) ((g_X12_timesTold S) 99 3) (g_X12_timesTold S)) 99 65).toInt.toNat) ((g_X12_wrongs (Int32.ofInt 5) ((g_X12_timesTold S) 99 3) (g_X12_timesTold S)) 99 64)) R _
          refine u_getE (v := (g_X12_wrongs (Int32.ofInt 5) ((g_X12_timesTold S) 99 3) (g_X12_timesTold S)) 99 65) rfl v_tyM rfl (z_sn (fun h => absurd h.1 (by decide))) ?_
          refine u_st rfl (fun _ => rfl) ?_
          show u_P L xs n d m_X12_monthTold 141 [(2, .int (f_X12_timesTold S)), (1, .int (S 99 3)), (0, .ref 100)] [.int (f_X12_timesTold S), .int ((g_X12_wrongs (Int32.ofInt 5) ((g_X12_timesTold S) 99 3) (g_X12_timesTold S)) 99 65), .ref 136] (z_s (g_X12_wrongs (Int32.ofInt 5) ((g_X12_timesTold S) 99 3) (g_X12_timesTold S)) 134 (((g_X12_wrongs (Int32.ofInt 5) ((g_X12_timesTold S) 99 3) (g_X12_timesTold S)) 99 65).toInt.toNat) ((g_X12_wrongs (Int32.ofInt 5) ((g_X12_timesTold S) 99 3) (g_X12_timesTold S)) 99 64)) R _
          refine u_iast rfl rfl (fun b191 b192 => ?_)
          have hD := hD b191 b192
          show u_P L xs n d m_X12_monthTold 142 [(2, .int (f_X12_timesTold S)), (1, .int (S 99 3)), (0, .ref 100)] [] (z_s (z_s (g_X12_wrongs (Int32.ofInt 5) ((g_X12_timesTold S) 99 3) (g_X12_timesTold S)) 134 (((g_X12_wrongs (Int32.ofInt 5) ((g_X12_timesTold S) 99 3) (g_X12_timesTold S)) 99 65).toInt.toNat) ((g_X12_wrongs (Int32.ofInt 5) ((g_X12_timesTold S) 99 3) (g_X12_timesTold S)) 99 64)) 135 (((g_X12_wrongs (Int32.ofInt 5) ((g_X12_timesTold S) 99 3) (g_X12_timesTold S)) 99 65).toInt.toNat) (f_X12_timesTold S)) R _
          refine u_st rfl (fun _ => rfl) ?_
          show u_P L xs n d m_X12_monthTold 143 [(2, .int (f_X12_timesTold S)), (1, .int (S 99 3)), (0, .ref 100)] [.ref 100] (z_s (z_s (g_X12_wrongs (Int32.ofInt 5) ((g_X12_timesTold S) 99 3) (g_X12_timesTold S)) 134 (((g_X12_wrongs (Int32.ofInt 5) ((g_X12_timesTold S) 99 3) (g_X12_timesTold S)) 99 65).toInt.toNat) ((g_X12_wrongs (Int32.ofInt 5) ((g_X12_timesTold S) 99 3) (g_X12_timesTold S)) 99 64)) 135 (((g_X12_wrongs (Int32.ofInt 5) ((g_X12_timesTold S) 99 3) (g_X12_timesTold S)) 99 65).toInt.toNat) (f_X12_timesTold S)) R _
          refine u_getr rfl v_tyM rfl ?_
          refine u_st rfl (fun _ => rfl) ?_
          show u_P L xs n d m_X12_monthTold 147 [(2, .int (f_X12_timesTold S)), (1, .int (S 99 3)), (0, .ref 100)] [.ref 100, .ref 137] (z_s (z_s (g_X12_wrongs (Int32.ofInt 5) ((g_X12_timesTold S) 99 3) (g_X12_timesTold S)) 134 (((g_X12_wrongs (Int32.ofInt 5) ((g_X12_timesTold S) 99 3) (g_X12_timesTold S)) 99 65).toInt.toNat) ((g_X12_wrongs (Int32.ofInt 5) ((g_X12_timesTold S) 99 3) (g_X12_timesTold S)) 99 64)) 135 (((g_X12_wrongs (Int32.ofInt 5) ((g_X12_timesTold S) 99 3) (g_X12_timesTold S)) 99 65).toInt.toNat) (f_X12_timesTold S)) R _
          refine u_getE (v := (g_X12_wrongs (Int32.ofInt 5) ((g_X12_timesTold S) 99 3) (g_X12_timesTold S)) 99 65) rfl v_tyM rfl ((z_sn (fun h => absurd h.1 (by decide))).trans (z_sn (fun h => absurd h.1 (by decide)))) ?_
          refine u_st rfl (fun _ => rfl) ?_
          show u_P L xs n d m_X12_monthTold 151 [(2, .int (f_X12_timesTold S)), (1, .int (S 99 3)), (0, .ref 100)] [.int (S 99 3), .int ((g_X12_wrongs (Int32.ofInt 5) ((g_X12_timesTold S) 99 3) (g_X12_timesTold S)) 99 65), .ref 137] (z_s (z_s (g_X12_wrongs (Int32.ofInt 5) ((g_X12_timesTold S) 99 3) (g_X12_timesTold S)) 134 (((g_X12_wrongs (Int32.ofInt 5) ((g_X12_timesTold S) 99 3) (g_X12_timesTold S)) 99 65).toInt.toNat) ((g_X12_wrongs (Int32.ofInt 5) ((g_X12_timesTold S) 99 3) (g_X12_timesTold S)) 99 64)) 135 (((g_X12_wrongs (Int32.ofInt 5) ((g_X12_timesTold S) 99 3) (g_X12_timesTold S)) 99 65).toInt.toNat) (f_X12_timesTold S)) R _
          refine u_iast rfl rfl (fun b201 b202 => ?_)
          have hD := hD b201 b202
          show u_P L xs n d m_X12_monthTold 152 [(2, .int (f_X12_timesTold S)), (1, .int (S 99 3)), (0, .ref 100)] [] (z_s (z_s (z_s (g_X12_wrongs (Int32.ofInt 5) ((g_X12_timesTold S) 99 3) (g_X12_timesTold S)) 134 (((g_X12_wrongs (Int32.ofInt 5) ((g_X12_timesTold S) 99 3) (g_X12_timesTold S)) 99 65).toInt.toNat) ((g_X12_wrongs (Int32.ofInt 5) ((g_X12_timesTold S) 99 3) (g_X12_timesTold S)) 99 64)) 135 (((g_X12_wrongs (Int32.ofInt 5) ((g_X12_timesTold S) 99 3) (g_X12_timesTold S)) 99 65).toInt.toNat) (f_X12_timesTold S)) 136 (((g_X12_wrongs (Int32.ofInt 5) ((g_X12_timesTold S) 99 3) (g_X12_timesTold S)) 99 65).toInt.toNat) (S 99 3)) R _
          refine u_st rfl (fun _ => rfl) ?_
          refine u_st rfl (fun _ => rfl) ?_
          show u_P L xs n d m_X12_monthTold 154 [(2, .int (f_X12_timesTold S)), (1, .int (S 99 3)), (0, .ref 100)] [.ref 100, .ref 100] (z_s (z_s (z_s (g_X12_wrongs (Int32.ofInt 5) ((g_X12_timesTold S) 99 3) (g_X12_timesTold S)) 134 (((g_X12_wrongs (Int32.ofInt 5) ((g_X12_timesTold S) 99 3) (g_X12_timesTold S)) 99 65).toInt.toNat) ((g_X12_wrongs (Int32.ofInt 5) ((g_X12_timesTold S) 99 3) (g_X12_timesTold S)) 99 64)) 135 (((g_X12_wrongs (Int32.ofInt 5) ((g_X12_timesTold S) 99 3) (g_X12_timesTold S)) 99 65).toInt.toNat) (f_X12_timesTold S)) 136 (((g_X12_wrongs (Int32.ofInt 5) ((g_X12_timesTold S) 99 3) (g_X12_timesTold S)) 99 65).toInt.toNat) (S 99 3)) R _
          refine u_getE (v := (g_X12_wrongs (Int32.ofInt 5) ((g_X12_timesTold S) 99 3) (g_X12_timesTold S)) 99 65) rfl v_tyM rfl ((z_sn (fun h => absurd h.1 (by decide))).trans ((z_sn (fun h => absurd h.1 (by decide))).trans (z_sn (fun h => absurd h.1 (by decide))))) ?_
          refine u_st rfl (fun _ => rfl) ?_
          refine u_st rfl (fun _ => rfl) ?_
          show u_P L xs n d m_X12_monthTold 159 [(2, .int (f_X12_timesTold S)), (1, .int (S 99 3)), (0, .ref 100)] [.int (((g_X12_wrongs (Int32.ofInt 5) ((g_X12_timesTold S) 99 3) (g_X12_timesTold S)) 99 65) + (Int32.ofInt 1)), .ref 100] (z_s (z_s (z_s (g_X12_wrongs (Int32.ofInt 5) ((g_X12_timesTold S) 99 3) (g_X12_timesTold S)) 134 (((g_X12_wrongs (Int32.ofInt 5) ((g_X12_timesTold S) 99 3) (g_X12_timesTold S)) 99 65).toInt.toNat) ((g_X12_wrongs (Int32.ofInt 5) ((g_X12_timesTold S) 99 3) (g_X12_timesTold S)) 99 64)) 135 (((g_X12_wrongs (Int32.ofInt 5) ((g_X12_timesTold S) 99 3) (g_X12_timesTold S)) 99 65).toInt.toNat) (f_X12_timesTold S)) 136 (((g_X12_wrongs (Int32.ofInt 5) ((g_X12_timesTold S) 99 3) (g_X12_timesTold S)) 99 65).toInt.toNat) (S 99 3)) R _
          refine u_put rfl v_tyM rfl ?_
          refine u_st rfl (fun _ => rfl) ?_
          refine u_st rfl (fun _ => rfl) ?_
          show u_P L xs n d m_X12_monthTold 164 [(2, .int (f_X12_timesTold S)), (1, .int (S 99 3)), (0, .ref 100)] [.int (Int32.ofInt 0), .ref 100] (z_s (z_s (z_s (z_s (g_X12_wrongs (Int32.ofInt 5) ((g_X12_timesTold S) 99 3) (g_X12_timesTold S)) 134 (((g_X12_wrongs (Int32.ofInt 5) ((g_X12_timesTold S) 99 3) (g_X12_timesTold S)) 99 65).toInt.toNat) ((g_X12_wrongs (Int32.ofInt 5) ((g_X12_timesTold S) 99 3) (g_X12_timesTold S)) 99 64)) 135 (((g_X12_wrongs (Int32.ofInt 5) ((g_X12_timesTold S) 99 3) (g_X12_timesTold S)) 99 65).toInt.toNat) (f_X12_timesTold S)) 136 (((g_X12_wrongs (Int32.ofInt 5) ((g_X12_timesTold S) 99 3) (g_X12_timesTold S)) 99 65).toInt.toNat) (S 99 3)) 99 65 (((g_X12_wrongs (Int32.ofInt 5) ((g_X12_timesTold S) 99 3) (g_X12_timesTold S)) 99 65) + (Int32.ofInt 1))) R _
          refine u_put rfl v_tyM rfl ?_
          refine u_st rfl (fun _ => rfl) ?_
          refine u_st rfl (fun _ => rfl) ?_
          show u_P L xs n d m_X12_monthTold 169 [(2, .int (f_X12_timesTold S)), (1, .int (S 99 3)), (0, .ref 100)] [.ref 100, .ref 100] (z_s (z_s (z_s (z_s (z_s (g_X12_wrongs (Int32.ofInt 5) ((g_X12_timesTold S) 99 3) (g_X12_timesTold S)) 134 (((g_X12_wrongs (Int32.ofInt 5) ((g_X12_timesTold S) 99 3) (g_X12_timesTold S)) 99 65).toInt.toNat) ((g_X12_wrongs (Int32.ofInt 5) ((g_X12_timesTold S) 99 3) (g_X12_timesTold S)) 99 64)) 135 (((g_X12_wrongs (Int32.ofInt 5) ((g_X12_timesTold S) 99 3) (g_X12_timesTold S)) 99 65).toInt.toNat) (f_X12_timesTold S)) 136 (((g_X12_wrongs (Int32.ofInt 5) ((g_X12_timesTold S) 99 3) (g_X12_timesTold S)) 99 65).toInt.toNat) (S 99 3)) 99 65 (((g_X12_wrongs (Int32.ofInt 5) ((g_X12_timesTold S) 99 3) (g_X12_timesTold S)) 99 65) + (Int32.ofInt 1))) 99 66 (Int32.ofInt 0)) R _
          refine u_getE (v := (g_X12_wrongs (Int32.ofInt 5) ((g_X12_timesTold S) 99 3) (g_X12_timesTold S)) 99 3) rfl v_tyM rfl ((z_sn (fun h => absurd h.2 (by decide))).trans ((z_sn (fun h => absurd h.2 (by decide))).trans ((z_sn (fun h => absurd h.1 (by decide))).trans ((z_sn (fun h => absurd h.1 (by decide))).trans (z_sn (fun h => absurd h.1 (by decide))))))) ?_
          refine u_st rfl (fun _ => rfl) ?_
          refine u_st rfl (fun _ => rfl) ?_
          show u_P L xs n d m_X12_monthTold 174 [(2, .int (f_X12_timesTold S)), (1, .int (S 99 3)), (0, .ref 100)] [.int (((g_X12_wrongs (Int32.ofInt 5) ((g_X12_timesTold S) 99 3) (g_X12_timesTold S)) 99 3) + (Int32.ofInt 1)), .ref 100] (z_s (z_s (z_s (z_s (z_s (g_X12_wrongs (Int32.ofInt 5) ((g_X12_timesTold S) 99 3) (g_X12_timesTold S)) 134 (((g_X12_wrongs (Int32.ofInt 5) ((g_X12_timesTold S) 99 3) (g_X12_timesTold S)) 99 65).toInt.toNat) ((g_X12_wrongs (Int32.ofInt 5) ((g_X12_timesTold S) 99 3) (g_X12_timesTold S)) 99 64)) 135 (((g_X12_wrongs (Int32.ofInt 5) ((g_X12_timesTold S) 99 3) (g_X12_timesTold S)) 99 65).toInt.toNat) (f_X12_timesTold S)) 136 (((g_X12_wrongs (Int32.ofInt 5) ((g_X12_timesTold S) 99 3) (g_X12_timesTold S)) 99 65).toInt.toNat) (S 99 3)) 99 65 (((g_X12_wrongs (Int32.ofInt 5) ((g_X12_timesTold S) 99 3) (g_X12_timesTold S)) 99 65) + (Int32.ofInt 1))) 99 66 (Int32.ofInt 0)) R _
          refine u_put rfl v_tyM rfl ?_
          show u_P L xs n d m_X12_monthTold 177 [(2, .int (f_X12_timesTold S)), (1, .int (S 99 3)), (0, .ref 100)] [] (z_s (z_s (z_s (z_s (z_s (z_s (g_X12_wrongs (Int32.ofInt 5) ((g_X12_timesTold S) 99 3) (g_X12_timesTold S)) 134 (((g_X12_wrongs (Int32.ofInt 5) ((g_X12_timesTold S) 99 3) (g_X12_timesTold S)) 99 65).toInt.toNat) ((g_X12_wrongs (Int32.ofInt 5) ((g_X12_timesTold S) 99 3) (g_X12_timesTold S)) 99 64)) 135 (((g_X12_wrongs (Int32.ofInt 5) ((g_X12_timesTold S) 99 3) (g_X12_timesTold S)) 99 65).toInt.toNat) (f_X12_timesTold S)) 136 (((g_X12_wrongs (Int32.ofInt 5) ((g_X12_timesTold S) 99 3) (g_X12_timesTold S)) 99 65).toInt.toNat) (S 99 3)) 99 65 (((g_X12_wrongs (Int32.ofInt 5) ((g_X12_timesTold S) 99 3) (g_X12_timesTold S)) 99 65) + (Int32.ofInt 1))) 99 66 (Int32.ofInt 0)) 99 3 (((g_X12_wrongs (Int32.ofInt 5) ((g_X12_timesTold S) 99 3) (g_X12_timesTold S)) 99 3) + (Int32.ofInt 1))) R _
          exact u_ret rfl rfl ⟨rfl, rfl, hD⟩
        · have hD := hD.2 h17
          show u_P L xs n d m_X12_monthTold 118 [(2, .int (f_X12_timesTold S)), (1, .int (S 99 3)), (0, .ref 100)] [] (g_X12_wrongs (Int32.ofInt 5) ((g_X12_timesTold S) 99 3) (g_X12_timesTold S)) R _
          exact u_ret rfl rfl ⟨rfl, rfl, hD⟩
  · have hD := hD.2 h1
    show u_P L xs n d m_X12_monthTold 14 [(1, .int (S 99 3)), (0, .ref 100)] [] S R _
    refine u_st rfl (fun _ => rfl) ?_
    show u_P L xs n d m_X12_monthTold 15 [(1, .int (S 99 3)), (0, .ref 100)] [.ref 100] S R _
    refine u_getE (v := S 99 65) rfl v_tyM rfl rfl ?_
    show u_P L xs n d m_X12_monthTold 18 [(1, .int (S 99 3)), (0, .ref 100)] [.int (S 99 65)] S R _
    refine u_if_le rfl (fun h21 => ?_) (fun h21 => ?_)
    · have hD := hD.1 h21
      show u_P L xs n d m_X12_monthTold 80 [(1, .int (S 99 3)), (0, .ref 100)] [] S R _
      refine u_st rfl (fun _ => rfl) ?_
      show u_P L xs n d m_X12_monthTold 81 [(1, .int (S 99 3)), (0, .ref 100)] [.ref 100] S R _
      refine u_cv (rest := []) rfl (by decide) mt_X12_timesTold v_tyM rfl rfl rfl (Nat.le_of_ble_eq_true rfl) (Nat.le_of_ble_eq_true rfl) (Nat.le_of_ble_eq_true rfl) (fun d' => c_X12_timesTold L xs n d' S R) ?_
      rintro _ _ _ ⟨_, rfl, rfl, rfl, rfl⟩
      refine u_st rfl (fun _ => rfl) ?_
      refine u_st rfl (fun _ => rfl) ?_
      show u_P L xs n d m_X12_monthTold 86 [(2, .int (f_X12_timesTold S)), (1, .int (S 99 3)), (0, .ref 100)] [.ref 100] (g_X12_timesTold S) R _
      refine u_cv (rest := []) rfl (by decide) mt_X12_here v_tyM rfl rfl rfl (Nat.le_of_ble_eq_true rfl) (Nat.le_of_ble_eq_true rfl) (Nat.le_of_ble_eq_true rfl) (fun d' => c_X12_here L xs n d' (g_X12_timesTold S) R) ?_
      rintro _ _ _ ⟨_, rfl, rfl, rfl, rfl⟩
      refine u_st rfl (fun _ => rfl) ?_
      show u_P L xs n d m_X12_monthTold 91 [(2, .int (f_X12_timesTold S)), (1, .int (S 99 3)), (0, .ref 100)] [.int (Int32.ofInt 40), .int (f_X12_here (g_X12_timesTold S))] (g_X12_timesTold S) R _
      refine u_ic_ne rfl (fun h22 => ?_) (fun h22 => ?_)
      · have hD := hD.1 h22
        show u_P L xs n d m_X12_monthTold 178 [(2, .int (f_X12_timesTold S)), (1, .int (S 99 3)), (0, .ref 100)] [] (g_X12_timesTold S) R _
        refine u_st rfl (fun _ => rfl) ?_
        show u_P L xs n d m_X12_monthTold 179 [(2, .int (f_X12_timesTold S)), (1, .int (S 99 3)), (0, .ref 100)] [.ref 100] (g_X12_timesTold S) R _
        refine u_cv (rest := []) rfl (by decide) mt_X12_here v_tyM rfl rfl rfl (Nat.le_of_ble_eq_true rfl) (Nat.le_of_ble_eq_true rfl) (Nat.le_of_ble_eq_true rfl) (fun d' => c_X12_here L xs n d' (g_X12_timesTold S) R) ?_
        rintro _ _ _ ⟨_, rfl, rfl, rfl, rfl⟩
        refine u_st rfl (fun _ => rfl) ?_
        show u_P L xs n d m_X12_monthTold 184 [(2, .int (f_X12_timesTold S)), (1, .int (S 99 3)), (0, .ref 100)] [.int (Int32.ofInt 46), .int (f_X12_here (g_X12_timesTold S))] (g_X12_timesTold S) R _
        refine u_ic_eq rfl (fun h23 => ?_) (fun h23 => ?_)
        · have hD := hD.1 h23
          show u_P L xs n d m_X12_monthTold 216 [(2, .int (f_X12_timesTold S)), (1, .int (S 99 3)), (0, .ref 100)] [] (g_X12_timesTold S) R _
          refine u_st rfl (fun _ => rfl) ?_
          show u_P L xs n d m_X12_monthTold 217 [(2, .int (f_X12_timesTold S)), (1, .int (S 99 3)), (0, .ref 100)] [.ref 100] (g_X12_timesTold S) R _
          refine u_getE (v := (g_X12_timesTold S) 99 64) rfl v_tyM rfl rfl ?_
          refine u_st rfl (fun _ => rfl) ?_
          refine u_st rfl (fun _ => rfl) ?_
          refine u_st rfl (fun _ => rfl) ?_
          show u_P L xs n d m_X12_monthTold 224 [(2, .int (f_X12_timesTold S)), (1, .int (S 99 3)), (0, .ref 100)] [.int (Int32.ofInt 48), .int (((g_X12_timesTold S) 99 64) + (f_X12_timesTold S))] (g_X12_timesTold S) R _
          refine u_ic_le rfl (fun h24 => ?_) (fun h24 => ?_)
          · have hD := hD.1 h24
            show u_P L xs n d m_X12_monthTold 234 [(2, .int (f_X12_timesTold S)), (1, .int (S 99 3)), (0, .ref 100)] [] (g_X12_timesTold S) R _
            refine u_st rfl (fun _ => rfl) ?_
            show u_P L xs n d m_X12_monthTold 235 [(2, .int (f_X12_timesTold S)), (1, .int (S 99 3)), (0, .ref 100)] [.ref 100] (g_X12_timesTold S) R _
            refine u_cv (rest := []) rfl (by decide) mt_X12_isGood v_tyM rfl rfl rfl (Nat.le_of_ble_eq_true rfl) (Nat.le_of_ble_eq_true rfl) (Nat.le_of_ble_eq_true rfl) (fun d' => c_X12_isGood L xs n d' (g_X12_timesTold S) R) ?_
            rintro _ _ _ ⟨_, rfl, rfl, rfl, rfl⟩
            show u_P L xs n d m_X12_monthTold 238 [(2, .int (f_X12_timesTold S)), (1, .int (S 99 3)), (0, .ref 100)] [.int (f_X12_isGood (g_X12_timesTold S))] (g_X12_timesTold S) R _
            refine u_if_ne rfl (fun h25 => ?_) (fun h25 => ?_)
            · have hD := hD.1 h25
              show u_P L xs n d m_X12_monthTold 242 [(2, .int (f_X12_timesTold S)), (1, .int (S 99 3)), (0, .ref 100)] [] (g_X12_timesTold S) R _
              refine u_st rfl (fun _ => rfl) ?_
              refine u_st rfl (fun _ => rfl) ?_
              refine u_lc (b := [(0, .ref 100), (1, .int (S 99 3)), (2, .int (f_X12_timesTold S)), (3, .int (Int32.ofInt 0))]) (show ([3, 2, 1, 0] : List Nat).Nodup by decide) (show ([0, 1, 2, 3] : List Nat).Nodup by decide) (fun i => match i with | 0 => rfl | 1 => rfl | 2 => rfl | 3 => rfl | _ + 4 => rfl) ?_
              exact (hd_X12_monthTold L xs H244 K k244 n) d (S 99 3) (f_X12_timesTold S) (Int32.ofInt 0) (g_X12_timesTold S) hD
            · have hD := hD.2 h25
              show u_P L xs n d m_X12_monthTold 241 [(2, .int (f_X12_timesTold S)), (1, .int (S 99 3)), (0, .ref 100)] [] (g_X12_timesTold S) R _
              exact u_ret rfl rfl ⟨rfl, rfl, hD⟩
          · have hD := hD.2 h24
            show u_P L xs n d m_X12_monthTold 227 [(2, .int (f_X12_timesTold S)), (1, .int (S 99 3)), (0, .ref 100)] [] (g_X12_timesTold S) R _
            refine u_st rfl (fun _ => rfl) ?_
            refine u_st rfl (fun _ => rfl) ?_
            refine u_st rfl (fun _ => rfl) ?_
            show u_P L xs n d m_X12_monthTold 231 [(2, .int (f_X12_timesTold S)), (1, .int (S 99 3)), (0, .ref 100)] [.int (S 99 3), .int (Int32.ofInt 6), .ref 100] (g_X12_timesTold S) R _
            refine u_cv (rest := []) rfl (by decide) mt_X12_wrongs v_tyM rfl rfl rfl (Nat.le_of_ble_eq_true rfl) (Nat.le_of_ble_eq_true rfl) (Nat.le_of_ble_eq_true rfl) (fun d' => c_X12_wrongs L xs n d' (Int32.ofInt 6) (S 99 3) (g_X12_timesTold S) R) ?_
            rintro _ _ _ ⟨rfl, rfl, rfl⟩
            refine u_st rfl (fun _ => rfl) ?_
            show u_P L xs n d m_X12_monthTold 235 [(2, .int (f_X12_timesTold S)), (1, .int (S 99 3)), (0, .ref 100)] [.ref 100] (g_X12_wrongs (Int32.ofInt 6) (S 99 3) (g_X12_timesTold S)) R _
            refine u_cv (rest := []) rfl (by decide) mt_X12_isGood v_tyM rfl rfl rfl (Nat.le_of_ble_eq_true rfl) (Nat.le_of_ble_eq_true rfl) (Nat.le_of_ble_eq_true rfl) (fun d' => c_X12_isGood L xs n d' (g_X12_wrongs (Int32.ofInt 6) (S 99 3) (g_X12_timesTold S)) R) ?_
            rintro _ _ _ ⟨_, rfl, rfl, rfl, rfl⟩
            show u_P L xs n d m_X12_monthTold 238 [(2, .int (f_X12_timesTold S)), (1, .int (S 99 3)), (0, .ref 100)] [.int (f_X12_isGood (g_X12_wrongs (Int32.ofInt 6) (S 99 3) (g_X12_timesTold S)))] (g_X12_wrongs (Int32.ofInt 6) (S 99 3) (g_X12_timesTold S)) R _
            refine u_if_ne rfl (fun h26 => ?_) (fun h26 => ?_)
            · have hD := hD.1 h26
              show u_P L xs n d m_X12_monthTold 242 [(2, .int (f_X12_timesTold S)), (1, .int (S 99 3)), (0, .ref 100)] [] (g_X12_wrongs (Int32.ofInt 6) (S 99 3) (g_X12_timesTold S)) R _
              refine u_st rfl (fun _ => rfl) ?_
              refine u_st rfl (fun _ => rfl) ?_
              refine u_lc (b := [(0, .ref 100), (1, .int (S 99 3)), (2, .int (f_X12_timesTold S)), (3, .int (Int32.ofInt 0))]) (show ([3, 2, 1, 0] : List Nat).Nodup by decide) (show ([0, 1, 2, 3] : List Nat).Nodup by decide) (fun i => match i with | 0 => rfl | 1 => rfl | 2 => rfl | 3 => rfl | _ + 4 => rfl) ?_
              exact (hd_X12_monthTold L xs H244 K k244 n) d (S 99 3) (f_X12_timesTold S) (Int32.ofInt 0) (g_X12_wrongs (Int32.ofInt 6) (S 99 3) (g_X12_timesTold S)) hD
            · have hD := hD.2 h26
              show u_P L xs n d m_X12_monthTold 241 [(2, .int (f_X12_timesTold S)), (1, .int (S 99 3)), (0, .ref 100)] [] (g_X12_wrongs (Int32.ofInt 6) (S 99 3) (g_X12_timesTold S)) R _
              exact u_ret rfl rfl ⟨rfl, rfl, hD⟩
        · have hD := hD.2 h23
          show u_P L xs n d m_X12_monthTold 187 [(2, .int (f_X12_timesTold S)), (1, .int (S 99 3)), (0, .ref 100)] [] (g_X12_timesTold S) R _
          refine u_st rfl (fun _ => rfl) ?_
          show u_P L xs n d m_X12_monthTold 188 [(2, .int (f_X12_timesTold S)), (1, .int (S 99 3)), (0, .ref 100)] [.ref 100] (g_X12_timesTold S) R _
          refine u_cv (rest := []) rfl (by decide) mt_X12_here v_tyM rfl rfl rfl (Nat.le_of_ble_eq_true rfl) (Nat.le_of_ble_eq_true rfl) (Nat.le_of_ble_eq_true rfl) (fun d' => c_X12_here L xs n d' (g_X12_timesTold S) R) ?_
          rintro _ _ _ ⟨_, rfl, rfl, rfl, rfl⟩
          refine u_st rfl (fun _ => rfl) ?_
          refine u_st rfl (fun _ => rfl) ?_
          refine u_st rfl (fun _ => rfl) ?_
          show u_P L xs n d m_X12_monthTold 198 [(2, .int (f_X12_timesTold S)), (1, .int (S 99 3)), (0, .ref 100)] [.long (Int64.ofInt 74), .long (Int64.ofInt 65), .long ((f_X12_here (g_X12_timesTold S)).toInt64)] (g_X12_timesTold S) R _
          refine u_cs (ac := [.long ((f_X12_here (g_X12_timesTold S)).toInt64), .long (Int64.ofInt 65), .long (Int64.ofInt 74)]) (rest := []) rfl (by decide) mt_X12_lies (fun _ => rfl) (Nat.le_of_ble_eq_true rfl) (Nat.le_of_ble_eq_true rfl) (fun d' => z_liesC L xs n d' ((f_X12_here (g_X12_timesTold S))) (Int64.ofInt 65) (Int64.ofInt 74) (lo := 65) (hi := 74) rfl rfl (g_X12_timesTold S) R) ?_
          rintro _ _ _ ⟨_, rfl, rfl, rfl, rfl⟩
          show u_P L xs n d m_X12_monthTold 201 [(2, .int (f_X12_timesTold S)), (1, .int (S 99 3)), (0, .ref 100)] [.int (z_in ((f_X12_here (g_X12_timesTold S))) 65 74)] (g_X12_timesTold S) R _
          refine u_if_ne rfl (fun h27 => ?_) (fun h27 => ?_)
          · have hD := hD.1 h27
            show u_P L xs n d m_X12_monthTold 216 [(2, .int (f_X12_timesTold S)), (1, .int (S 99 3)), (0, .ref 100)] [] (g_X12_timesTold S) R _
            refine u_st rfl (fun _ => rfl) ?_
            show u_P L xs n d m_X12_monthTold 217 [(2, .int (f_X12_timesTold S)), (1, .int (S 99 3)), (0, .ref 100)] [.ref 100] (g_X12_timesTold S) R _
            refine u_getE (v := (g_X12_timesTold S) 99 64) rfl v_tyM rfl rfl ?_
            refine u_st rfl (fun _ => rfl) ?_
            refine u_st rfl (fun _ => rfl) ?_
            refine u_st rfl (fun _ => rfl) ?_
            show u_P L xs n d m_X12_monthTold 224 [(2, .int (f_X12_timesTold S)), (1, .int (S 99 3)), (0, .ref 100)] [.int (Int32.ofInt 48), .int (((g_X12_timesTold S) 99 64) + (f_X12_timesTold S))] (g_X12_timesTold S) R _
            refine u_ic_le rfl (fun h28 => ?_) (fun h28 => ?_)
            · have hD := hD.1 h28
              show u_P L xs n d m_X12_monthTold 234 [(2, .int (f_X12_timesTold S)), (1, .int (S 99 3)), (0, .ref 100)] [] (g_X12_timesTold S) R _
              refine u_st rfl (fun _ => rfl) ?_
              show u_P L xs n d m_X12_monthTold 235 [(2, .int (f_X12_timesTold S)), (1, .int (S 99 3)), (0, .ref 100)] [.ref 100] (g_X12_timesTold S) R _
              refine u_cv (rest := []) rfl (by decide) mt_X12_isGood v_tyM rfl rfl rfl (Nat.le_of_ble_eq_true rfl) (Nat.le_of_ble_eq_true rfl) (Nat.le_of_ble_eq_true rfl) (fun d' => c_X12_isGood L xs n d' (g_X12_timesTold S) R) ?_
              rintro _ _ _ ⟨_, rfl, rfl, rfl, rfl⟩
              show u_P L xs n d m_X12_monthTold 238 [(2, .int (f_X12_timesTold S)), (1, .int (S 99 3)), (0, .ref 100)] [.int (f_X12_isGood (g_X12_timesTold S))] (g_X12_timesTold S) R _
              refine u_if_ne rfl (fun h29 => ?_) (fun h29 => ?_)
              · have hD := hD.1 h29
                show u_P L xs n d m_X12_monthTold 242 [(2, .int (f_X12_timesTold S)), (1, .int (S 99 3)), (0, .ref 100)] [] (g_X12_timesTold S) R _
                refine u_st rfl (fun _ => rfl) ?_
                refine u_st rfl (fun _ => rfl) ?_
                refine u_lc (b := [(0, .ref 100), (1, .int (S 99 3)), (2, .int (f_X12_timesTold S)), (3, .int (Int32.ofInt 0))]) (show ([3, 2, 1, 0] : List Nat).Nodup by decide) (show ([0, 1, 2, 3] : List Nat).Nodup by decide) (fun i => match i with | 0 => rfl | 1 => rfl | 2 => rfl | 3 => rfl | _ + 4 => rfl) ?_
                exact (hd_X12_monthTold L xs H244 K k244 n) d (S 99 3) (f_X12_timesTold S) (Int32.ofInt 0) (g_X12_timesTold S) hD
              · have hD := hD.2 h29
                show u_P L xs n d m_X12_monthTold 241 [(2, .int (f_X12_timesTold S)), (1, .int (S 99 3)), (0, .ref 100)] [] (g_X12_timesTold S) R _
                exact u_ret rfl rfl ⟨rfl, rfl, hD⟩
            · have hD := hD.2 h28
              show u_P L xs n d m_X12_monthTold 227 [(2, .int (f_X12_timesTold S)), (1, .int (S 99 3)), (0, .ref 100)] [] (g_X12_timesTold S) R _
              refine u_st rfl (fun _ => rfl) ?_
              refine u_st rfl (fun _ => rfl) ?_
              refine u_st rfl (fun _ => rfl) ?_
              show u_P L xs n d m_X12_monthTold 231 [(2, .int (f_X12_timesTold S)), (1, .int (S 99 3)), (0, .ref 100)] [.int (S 99 3), .int (Int32.ofInt 6), .ref 100] (g_X12_timesTold S) R _
              refine u_cv (rest := []) rfl (by decide) mt_X12_wrongs v_tyM rfl rfl rfl (Nat.le_of_ble_eq_true rfl) (Nat.le_of_ble_eq_true rfl) (Nat.le_of_ble_eq_true rfl) (fun d' => c_X12_wrongs L xs n d' (Int32.ofInt 6) (S 99 3) (g_X12_timesTold S) R) ?_
              rintro _ _ _ ⟨rfl, rfl, rfl⟩
              refine u_st rfl (fun _ => rfl) ?_
              show u_P L xs n d m_X12_monthTold 235 [(2, .int (f_X12_timesTold S)), (1, .int (S 99 3)), (0, .ref 100)] [.ref 100] (g_X12_wrongs (Int32.ofInt 6) (S 99 3) (g_X12_timesTold S)) R _
              refine u_cv (rest := []) rfl (by decide) mt_X12_isGood v_tyM rfl rfl rfl (Nat.le_of_ble_eq_true rfl) (Nat.le_of_ble_eq_true rfl) (Nat.le_of_ble_eq_true rfl) (fun d' => c_X12_isGood L xs n d' (g_X12_wrongs (Int32.ofInt 6) (S 99 3) (g_X12_timesTold S)) R) ?_
              rintro _ _ _ ⟨_, rfl, rfl, rfl, rfl⟩
              show u_P L xs n d m_X12_monthTold 238 [(2, .int (f_X12_timesTold S)), (1, .int (S 99 3)), (0, .ref 100)] [.int (f_X12_isGood (g_X12_wrongs (Int32.ofInt 6) (S 99 3) (g_X12_timesTold S)))] (g_X12_wrongs (Int32.ofInt 6) (S 99 3) (g_X12_timesTold S)) R _
              refine u_if_ne rfl (fun h30 => ?_) (fun h30 => ?_)
              · have hD := hD.1 h30
                show u_P L xs n d m_X12_monthTold 242 [(2, .int (f_X12_timesTold S)), (1, .int (S 99 3)), (0, .ref 100)] [] (g_X12_wrongs (Int32.ofInt 6) (S 99 3) (g_X12_timesTold S)) R _
                refine u_st rfl (fun _ => rfl) ?_
                refine u_st rfl (fun _ => rfl) ?_
                refine u_lc (b := [(0, .ref 100), (1, .int (S 99 3)), (2, .int (f_X12_timesTold S)), (3, .int (Int32.ofInt 0))]) (show ([3, 2, 1, 0] : List Nat).Nodup by decide) (show ([0, 1, 2, 3] : List Nat).Nodup by decide) (fun i => match i with | 0 => rfl | 1 => rfl | 2 => rfl | 3 => rfl | _ + 4 => rfl) ?_
                exact (hd_X12_monthTold L xs H244 K k244 n) d (S 99 3) (f_X12_timesTold S) (Int32.ofInt 0) (g_X12_wrongs (Int32.ofInt 6) (S 99 3) (g_X12_timesTold S)) hD
              · have hD := hD.2 h30
                show u_P L xs n d m_X12_monthTold 241 [(2, .int (f_X12_timesTold S)), (1, .int (S 99 3)), (0, .ref 100)] [] (g_X12_wrongs (Int32.ofInt 6) (S 99 3) (g_X12_timesTold S)) R _
                exact u_ret rfl rfl ⟨rfl, rfl, hD⟩
          · have hD := hD.2 h27
            show u_P L xs n d m_X12_monthTold 204 [(2, .int (f_X12_timesTold S)), (1, .int (S 99 3)), (0, .ref 100)] [] (g_X12_timesTold S) R _
            refine u_st rfl (fun _ => rfl) ?_
            refine u_st rfl (fun _ => rfl) ?_
            refine u_st rfl (fun _ => rfl) ?_
            show u_P L xs n d m_X12_monthTold 207 [(2, .int (f_X12_timesTold S)), (1, .int (S 99 3)), (0, .ref 100)] [.ref 100, .int (Int32.ofInt 1), .ref 100] (g_X12_timesTold S) R _
            refine u_getE (v := (g_X12_timesTold S) 99 3) rfl v_tyM rfl rfl ?_
            show u_P L xs n d m_X12_monthTold 210 [(2, .int (f_X12_timesTold S)), (1, .int (S 99 3)), (0, .ref 100)] [.int ((g_X12_timesTold S) 99 3), .int (Int32.ofInt 1), .ref 100] (g_X12_timesTold S) R _
            refine u_cv (rest := []) rfl (by decide) mt_X12_wrongs v_tyM rfl rfl rfl (Nat.le_of_ble_eq_true rfl) (Nat.le_of_ble_eq_true rfl) (Nat.le_of_ble_eq_true rfl) (fun d' => c_X12_wrongs L xs n d' (Int32.ofInt 1) ((g_X12_timesTold S) 99 3) (g_X12_timesTold S) R) ?_
            rintro _ _ _ ⟨rfl, rfl, rfl⟩
            refine u_st rfl (fun _ => rfl) ?_
            refine u_st rfl (fun _ => rfl) ?_
            show u_P L xs n d m_X12_monthTold 235 [(2, .int (f_X12_timesTold S)), (1, .int (S 99 3)), (0, .ref 100)] [.ref 100] (g_X12_wrongs (Int32.ofInt 1) ((g_X12_timesTold S) 99 3) (g_X12_timesTold S)) R _
            refine u_cv (rest := []) rfl (by decide) mt_X12_isGood v_tyM rfl rfl rfl (Nat.le_of_ble_eq_true rfl) (Nat.le_of_ble_eq_true rfl) (Nat.le_of_ble_eq_true rfl) (fun d' => c_X12_isGood L xs n d' (g_X12_wrongs (Int32.ofInt 1) ((g_X12_timesTold S) 99 3) (g_X12_timesTold S)) R) ?_
            rintro _ _ _ ⟨_, rfl, rfl, rfl, rfl⟩
            show u_P L xs n d m_X12_monthTold 238 [(2, .int (f_X12_timesTold S)), (1, .int (S 99 3)), (0, .ref 100)] [.int (f_X12_isGood (g_X12_wrongs (Int32.ofInt 1) ((g_X12_timesTold S) 99 3) (g_X12_timesTold S)))] (g_X12_wrongs (Int32.ofInt 1) ((g_X12_timesTold S) 99 3) (g_X12_timesTold S)) R _
            refine u_if_ne rfl (fun h31 => ?_) (fun h31 => ?_)
            · have hD := hD.1 h31
              show u_P L xs n d m_X12_monthTold 242 [(2, .int (f_X12_timesTold S)), (1, .int (S 99 3)), (0, .ref 100)] [] (g_X12_wrongs (Int32.ofInt 1) ((g_X12_timesTold S) 99 3) (g_X12_timesTold S)) R _
              refine u_st rfl (fun _ => rfl) ?_
              refine u_st rfl (fun _ => rfl) ?_
              refine u_lc (b := [(0, .ref 100), (1, .int (S 99 3)), (2, .int (f_X12_timesTold S)), (3, .int (Int32.ofInt 0))]) (show ([3, 2, 1, 0] : List Nat).Nodup by decide) (show ([0, 1, 2, 3] : List Nat).Nodup by decide) (fun i => match i with | 0 => rfl | 1 => rfl | 2 => rfl | 3 => rfl | _ + 4 => rfl) ?_
              exact (hd_X12_monthTold L xs H244 K k244 n) d (S 99 3) (f_X12_timesTold S) (Int32.ofInt 0) (g_X12_wrongs (Int32.ofInt 1) ((g_X12_timesTold S) 99 3) (g_X12_timesTold S)) hD
            · have hD := hD.2 h31
              show u_P L xs n d m_X12_monthTold 241 [(2, .int (f_X12_timesTold S)), (1, .int (S 99 3)), (0, .ref 100)] [] (g_X12_wrongs (Int32.ofInt 1) ((g_X12_timesTold S) 99 3) (g_X12_timesTold S)) R _
              exact u_ret rfl rfl ⟨rfl, rfl, hD⟩
      · have hD := hD.2 h22
        show u_P L xs n d m_X12_monthTold 94 [(2, .int (f_X12_timesTold S)), (1, .int (S 99 3)), (0, .ref 100)] [] (g_X12_timesTold S) R _
        refine u_st rfl (fun _ => rfl) ?_
        show u_P L xs n d m_X12_monthTold 95 [(2, .int (f_X12_timesTold S)), (1, .int (S 99 3)), (0, .ref 100)] [.ref 100] (g_X12_timesTold S) R _
        refine u_getE (v := (g_X12_timesTold S) 99 65) rfl v_tyM rfl rfl ?_
        refine u_st rfl (fun _ => rfl) ?_
        show u_P L xs n d m_X12_monthTold 99 [(2, .int (f_X12_timesTold S)), (1, .int (S 99 3)), (0, .ref 100)] [.int (Int32.ofInt 2), .int ((g_X12_timesTold S) 99 65)] (g_X12_timesTold S) R _
        refine u_ic_ne rfl (fun h32 => ?_) (fun h32 => ?_)
        · have hD := hD.1 h32
          show u_P L xs n d m_X12_monthTold 111 [(2, .int (f_X12_timesTold S)), (1, .int (S 99 3)), (0, .ref 100)] [] (g_X12_timesTold S) R _
          refine u_st rfl (fun _ => rfl) ?_
          show u_P L xs n d m_X12_monthTold 112 [(2, .int (f_X12_timesTold S)), (1, .int (S 99 3)), (0, .ref 100)] [.ref 100] (g_X12_timesTold S) R _
          refine u_cv (rest := []) rfl (by decide) mt_X12_isGood v_tyM rfl rfl rfl (Nat.le_of_ble_eq_true rfl) (Nat.le_of_ble_eq_true rfl) (Nat.le_of_ble_eq_true rfl) (fun d' => c_X12_isGood L xs n d' (g_X12_timesTold S) R) ?_
          rintro _ _ _ ⟨_, rfl, rfl, rfl, rfl⟩
          show u_P L xs n d m_X12_monthTold 115 [(2, .int (f_X12_timesTold S)), (1, .int (S 99 3)), (0, .ref 100)] [.int (f_X12_isGood (g_X12_timesTold S))] (g_X12_timesTold S) R _
          refine u_if_ne rfl (fun h33 => ?_) (fun h33 => ?_)
          · have hD := hD.1 h33
            show u_P L xs n d m_X12_monthTold 119 [(2, .int (f_X12_timesTold S)), (1, .int (S 99 3)), (0, .ref 100)] [] (g_X12_timesTold S) R _
            refine u_st rfl (fun _ => rfl) ?_
            show u_P L xs n d m_X12_monthTold 120 [(2, .int (f_X12_timesTold S)), (1, .int (S 99 3)), (0, .ref 100)] [.ref 100] (g_X12_timesTold S) R _
            refine u_getr rfl v_tyM rfl ?_
            refine u_st rfl (fun _ => rfl) ?_
            show u_P L xs n d m_X12_monthTold 124 [(2, .int (f_X12_timesTold S)), (1, .int (S 99 3)), (0, .ref 100)] [.ref 100, .ref 135] (g_X12_timesTold S) R _
            refine u_getE (v := (g_X12_timesTold S) 99 65) rfl v_tyM rfl rfl ?_
            refine u_st rfl (fun _ => rfl) ?_
            show u_P L xs n d m_X12_monthTold 128 [(2, .int (f_X12_timesTold S)), (1, .int (S 99 3)), (0, .ref 100)] [.ref 100, .int ((g_X12_timesTold S) 99 65), .ref 135] (g_X12_timesTold S) R _
            refine u_getE (v := (g_X12_timesTold S) 99 64) rfl v_tyM rfl rfl ?_
            show u_P L xs n d m_X12_monthTold 131 [(2, .int (f_X12_timesTold S)), (1, .int (S 99 3)), (0, .ref 100)] [.int ((g_X12_timesTold S) 99 64), .int ((g_X12_timesTold S) 99 65), .ref 135] (g_X12_timesTold S) R _
            refine u_iast rfl rfl (fun b341 b342 => ?_)
            have hD := hD b341 b342
            show u_P L xs n d m_X12_monthTold 132 [(2, .int (f_X12_timesTold S)), (1, .int (S 99 3)), (0, .ref 100)] [] (z_s (g_X12_timesTold S) 134 (((g_X12_timesTold S) 99 65).toInt.toNat) ((g_X12_timesTold S) 99 64)) R _
            refine u_st rfl (fun _ => rfl) ?_
            show u_P L xs n d m_X12_monthTold 133 [(2, .int (f_X12_timesTold S)), (1, .int (S 99 3)), (0, .ref 100)] [.ref 100] (z_s (g_X12_timesTold S) 134 (((g_X12_timesTold S) 99 65).toInt.toNat) ((g_X12_timesTold S) 99 64)) R _
            refine u_getr rfl v_tyM rfl ?_
            refine u_st rfl (fun _ => rfl) ?_
            show u_P L xs n d m_X12_monthTold 137 [(2, .int (f_X12_timesTold S)), (1, .int (S 99 3)), (0, .ref 100)] [.ref 100, .ref 136] (z_s (g_X12_timesTold S) 134 (((g_X12_timesTold S) 99 65).toInt.toNat) ((g_X12_timesTold S) 99 64)) R _
            refine u_getE (v := (g_X12_timesTold S) 99 65) rfl v_tyM rfl (z_sn (fun h => absurd h.1 (by decide))) ?_
            refine u_st rfl (fun _ => rfl) ?_
            show u_P L xs n d m_X12_monthTold 141 [(2, .int (f_X12_timesTold S)), (1, .int (S 99 3)), (0, .ref 100)] [.int (f_X12_timesTold S), .int ((g_X12_timesTold S) 99 65), .ref 136] (z_s (g_X12_timesTold S) 134 (((g_X12_timesTold S) 99 65).toInt.toNat) ((g_X12_timesTold S) 99 64)) R _
            refine u_iast rfl rfl (fun b351 b352 => ?_)
            have hD := hD b351 b352
            show u_P L xs n d m_X12_monthTold 142 [(2, .int (f_X12_timesTold S)), (1, .int (S 99 3)), (0, .ref 100)] [] (z_s (z_s (g_X12_timesTold S) 134 (((g_X12_timesTold S) 99 65).toInt.toNat) ((g_X12_timesTold S) 99 64)) 135 (((g_X12_timesTold S) 99 65).toInt.toNat) (f_X12_timesTold S)) R _
            refine u_st rfl (fun _ => rfl) ?_
            show u_P L xs n d m_X12_monthTold 143 [(2, .int (f_X12_timesTold S)), (1, .int (S 99 3)), (0, .ref 100)] [.ref 100] (z_s (z_s (g_X12_timesTold S) 134 (((g_X12_timesTold S) 99 65).toInt.toNat) ((g_X12_timesTold S) 99 64)) 135 (((g_X12_timesTold S) 99 65).toInt.toNat) (f_X12_timesTold S)) R _
            refine u_getr rfl v_tyM rfl ?_
            refine u_st rfl (fun _ => rfl) ?_
            show u_P L xs n d m_X12_monthTold 147 [(2, .int (f_X12_timesTold S)), (1, .int (S 99 3)), (0, .ref 100)] [.ref 100, .ref 137] (z_s (z_s (g_X12_timesTold S) 134 (((g_X12_timesTold S) 99 65).toInt.toNat) ((g_X12_timesTold S) 99 64)) 135 (((g_X12_timesTold S) 99 65).toInt.toNat) (f_X12_timesTold S)) R _
            refine u_getE (v := (g_X12_timesTold S) 99 65) rfl v_tyM rfl ((z_sn (fun h => absurd h.1 (by decide))).trans (z_sn (fun h => absurd h.1 (by decide)))) ?_
            refine u_st rfl (fun _ => rfl) ?_
            show u_P L xs n d m_X12_monthTold 151 [(2, .int (f_X12_timesTold S)), (1, .int (S 99 3)), (0, .ref 100)] [.int (S 99 3), .int ((g_X12_timesTold S) 99 65), .ref 137] (z_s (z_s (g_X12_timesTold S) 134 (((g_X12_timesTold S) 99 65).toInt.toNat) ((g_X12_timesTold S) 99 64)) 135 (((g_X12_timesTold S) 99 65).toInt.toNat) (f_X12_timesTold S)) R _
            refine u_iast rfl rfl (fun b361 b362 => ?_)
            have hD := hD b361 b362
            show u_P L xs n d m_X12_monthTold 152 [(2, .int (f_X12_timesTold S)), (1, .int (S 99 3)), (0, .ref 100)] [] (z_s (z_s (z_s (g_X12_timesTold S) 134 (((g_X12_timesTold S) 99 65).toInt.toNat) ((g_X12_timesTold S) 99 64)) 135 (((g_X12_timesTold S) 99 65).toInt.toNat) (f_X12_timesTold S)) 136 (((g_X12_timesTold S) 99 65).toInt.toNat) (S 99 3)) R _
            refine u_st rfl (fun _ => rfl) ?_
            refine u_st rfl (fun _ => rfl) ?_
            show u_P L xs n d m_X12_monthTold 154 [(2, .int (f_X12_timesTold S)), (1, .int (S 99 3)), (0, .ref 100)] [.ref 100, .ref 100] (z_s (z_s (z_s (g_X12_timesTold S) 134 (((g_X12_timesTold S) 99 65).toInt.toNat) ((g_X12_timesTold S) 99 64)) 135 (((g_X12_timesTold S) 99 65).toInt.toNat) (f_X12_timesTold S)) 136 (((g_X12_timesTold S) 99 65).toInt.toNat) (S 99 3)) R _
            refine u_getE (v := (g_X12_timesTold S) 99 65) rfl v_tyM rfl ((z_sn (fun h => absurd h.1 (by decide))).trans ((z_sn (fun h => absurd h.1 (by decide))).trans (z_sn (fun h => absurd h.1 (by decide))))) ?_
            refine u_st rfl (fun _ => rfl) ?_
            refine u_st rfl (fun _ => rfl) ?_
            show u_P L xs n d m_X12_monthTold 159 [(2, .int (f_X12_timesTold S)), (1, .int (S 99 3)), (0, .ref 100)] [.int (((g_X12_timesTold S) 99 65) + (Int32.ofInt 1)), .ref 100] (z_s (z_s (z_s (g_X12_timesTold S) 134 (((g_X12_timesTold S) 99 65).toInt.toNat) ((g_X12_timesTold S) 99 64)) 135 (((g_X12_timesTold S) 99 65).toInt.toNat) (f_X12_timesTold S)) 136 (((g_X12_timesTold S) 99 65).toInt.toNat) (S 99 3)) R _
            refine u_put rfl v_tyM rfl ?_
            refine u_st rfl (fun _ => rfl) ?_
            refine u_st rfl (fun _ => rfl) ?_
            show u_P L xs n d m_X12_monthTold 164 [(2, .int (f_X12_timesTold S)), (1, .int (S 99 3)), (0, .ref 100)] [.int (Int32.ofInt 0), .ref 100] (z_s (z_s (z_s (z_s (g_X12_timesTold S) 134 (((g_X12_timesTold S) 99 65).toInt.toNat) ((g_X12_timesTold S) 99 64)) 135 (((g_X12_timesTold S) 99 65).toInt.toNat) (f_X12_timesTold S)) 136 (((g_X12_timesTold S) 99 65).toInt.toNat) (S 99 3)) 99 65 (((g_X12_timesTold S) 99 65) + (Int32.ofInt 1))) R _
            refine u_put rfl v_tyM rfl ?_
            refine u_st rfl (fun _ => rfl) ?_
            refine u_st rfl (fun _ => rfl) ?_
            show u_P L xs n d m_X12_monthTold 169 [(2, .int (f_X12_timesTold S)), (1, .int (S 99 3)), (0, .ref 100)] [.ref 100, .ref 100] (z_s (z_s (z_s (z_s (z_s (g_X12_timesTold S) 134 (((g_X12_timesTold S) 99 65).toInt.toNat) ((g_X12_timesTold S) 99 64)) 135 (((g_X12_timesTold S) 99 65).toInt.toNat) (f_X12_timesTold S)) 136 (((g_X12_timesTold S) 99 65).toInt.toNat) (S 99 3)) 99 65 (((g_X12_timesTold S) 99 65) + (Int32.ofInt 1))) 99 66 (Int32.ofInt 0)) R _
            refine u_getE (v := (g_X12_timesTold S) 99 3) rfl v_tyM rfl ((z_sn (fun h => absurd h.2 (by decide))).trans ((z_sn (fun h => absurd h.2 (by decide))).trans ((z_sn (fun h => absurd h.1 (by decide))).trans ((z_sn (fun h => absurd h.1 (by decide))).trans (z_sn (fun h => absurd h.1 (by decide))))))) ?_
            refine u_st rfl (fun _ => rfl) ?_
            refine u_st rfl (fun _ => rfl) ?_
            show u_P L xs n d m_X12_monthTold 174 [(2, .int (f_X12_timesTold S)), (1, .int (S 99 3)), (0, .ref 100)] [.int (((g_X12_timesTold S) 99 3) + (Int32.ofInt 1)), .ref 100] (z_s (z_s (z_s (z_s (z_s (g_X12_timesTold S) 134 (((g_X12_timesTold S) 99 65).toInt.toNat) ((g_X12_timesTold S) 99 64)) 135 (((g_X12_timesTold S) 99 65).toInt.toNat) (f_X12_timesTold S)) 136 (((g_X12_timesTold S) 99 65).toInt.toNat) (S 99 3)) 99 65 (((g_X12_timesTold S) 99 65) + (Int32.ofInt 1))) 99 66 (Int32.ofInt 0)) R _
            refine u_put rfl v_tyM rfl ?_
            show u_P L xs n d m_X12_monthTold 177 [(2, .int (f_X12_timesTold S)), (1, .int (S 99 3)), (0, .ref 100)] [] (z_s (z_s (z_s (z_s (z_s (z_s (g_X12_timesTold S) 134 (((g_X12_timesTold S) 99 65).toInt.toNat) ((g_X12_timesTold S) 99 64)) 135 (((g_X12_timesTold S) 99 65).toInt.toNat) (f_X12_timesTold S)) 136 (((g_X12_timesTold S) 99 65).toInt.toNat) (S 99 3)) 99 65 (((g_X12_timesTold S) 99 65) + (Int32.ofInt 1))) 99 66 (Int32.ofInt 0)) 99 3 (((g_X12_timesTold S) 99 3) + (Int32.ofInt 1))) R _
            exact u_ret rfl rfl ⟨rfl, rfl, hD⟩
          · have hD := hD.2 h33
            show u_P L xs n d m_X12_monthTold 118 [(2, .int (f_X12_timesTold S)), (1, .int (S 99 3)), (0, .ref 100)] [] (g_X12_timesTold S) R _
            exact u_ret rfl rfl ⟨rfl, rfl, hD⟩
        · have hD := hD.2 h32
          show u_P L xs n d m_X12_monthTold 102 [(2, .int (f_X12_timesTold S)), (1, .int (S 99 3)), (0, .ref 100)] [] (g_X12_timesTold S) R _
          refine u_st rfl (fun _ => rfl) ?_
          refine u_st rfl (fun _ => rfl) ?_
          refine u_st rfl (fun _ => rfl) ?_
          show u_P L xs n d m_X12_monthTold 105 [(2, .int (f_X12_timesTold S)), (1, .int (S 99 3)), (0, .ref 100)] [.ref 100, .int (Int32.ofInt 5), .ref 100] (g_X12_timesTold S) R _
          refine u_getE (v := (g_X12_timesTold S) 99 3) rfl v_tyM rfl rfl ?_
          show u_P L xs n d m_X12_monthTold 108 [(2, .int (f_X12_timesTold S)), (1, .int (S 99 3)), (0, .ref 100)] [.int ((g_X12_timesTold S) 99 3), .int (Int32.ofInt 5), .ref 100] (g_X12_timesTold S) R _
          refine u_cv (rest := []) rfl (by decide) mt_X12_wrongs v_tyM rfl rfl rfl (Nat.le_of_ble_eq_true rfl) (Nat.le_of_ble_eq_true rfl) (Nat.le_of_ble_eq_true rfl) (fun d' => c_X12_wrongs L xs n d' (Int32.ofInt 5) ((g_X12_timesTold S) 99 3) (g_X12_timesTold S) R) ?_
          rintro _ _ _ ⟨rfl, rfl, rfl⟩
          refine u_st rfl (fun _ => rfl) ?_
          show u_P L xs n d m_X12_monthTold 112 [(2, .int (f_X12_timesTold S)), (1, .int (S 99 3)), (0, .ref 100)] [.ref 100] (g_X12_wrongs (Int32.ofInt 5) ((g_X12_timesTold S) 99 3) (g_X12_timesTold S)) R _
          refine u_cv (rest := []) rfl (by decide) mt_X12_isGood v_tyM rfl rfl rfl (Nat.le_of_ble_eq_true rfl) (Nat.le_of_ble_eq_true rfl) (Nat.le_of_ble_eq_true rfl) (fun d' => c_X12_isGood L xs n d' (g_X12_wrongs (Int32.ofInt 5) ((g_X12_timesTold S) 99 3) (g_X12_timesTold S)) R) ?_
          rintro _ _ _ ⟨_, rfl, rfl, rfl, rfl⟩
          show u_P L xs n d m_X12_monthTold 115 [(2, .int (f_X12_timesTold S)), (1, .int (S 99 3)), (0, .ref 100)] [.int (f_X12_isGood (g_X12_wrongs (Int32.ofInt 5) ((g_X12_timesTold S) 99 3) (g_X12_timesTold S)))] (g_X12_wrongs (Int32.ofInt 5) ((g_X12_timesTold S) 99 3) (g_X12_timesTold S)) R _
          refine u_if_ne rfl (fun h37 => ?_) (fun h37 => ?_)
          · have hD := hD.1 h37
            show u_P L xs n d m_X12_monthTold 119 [(2, .int (f_X12_timesTold S)), (1, .int (S 99 3)), (0, .ref 100)] [] (g_X12_wrongs (Int32.ofInt 5) ((g_X12_timesTold S) 99 3) (g_X12_timesTold S)) R _
            refine u_st rfl (fun _ => rfl) ?_
            show u_P L xs n d m_X12_monthTold 120 [(2, .int (f_X12_timesTold S)), (1, .int (S 99 3)), (0, .ref 100)] [.ref 100] (g_X12_wrongs (Int32.ofInt 5) ((g_X12_timesTold S) 99 3) (g_X12_timesTold S)) R _
            refine u_getr rfl v_tyM rfl ?_
            refine u_st rfl (fun _ => rfl) ?_
            show u_P L xs n d m_X12_monthTold 124 [(2, .int (f_X12_timesTold S)), (1, .int (S 99 3)), (0, .ref 100)] [.ref 100, .ref 135] (g_X12_wrongs (Int32.ofInt 5) ((g_X12_timesTold S) 99 3) (g_X12_timesTold S)) R _
            refine u_getE (v := (g_X12_wrongs (Int32.ofInt 5) ((g_X12_timesTold S) 99 3) (g_X12_timesTold S)) 99 65) rfl v_tyM rfl rfl ?_
            refine u_st rfl (fun _ => rfl) ?_
            show u_P L xs n d m_X12_monthTold 128 [(2, .int (f_X12_timesTold S)), (1, .int (S 99 3)), (0, .ref 100)] [.ref 100, .int ((g_X12_wrongs (Int32.ofInt 5) ((g_X12_timesTold S) 99 3) (g_X12_timesTold S)) 99 65), .ref 135] (g_X12_wrongs (Int32.ofInt 5) ((g_X12_timesTold S) 99 3) (g_X12_timesTold S)) R _
            refine u_getE (v := (g_X12_wrongs (Int32.ofInt 5) ((g_X12_timesTold S) 99 3) (g_X12_timesTold S)) 99 64) rfl v_tyM rfl rfl ?_
            show u_P L xs n d m_X12_monthTold 131 [(2, .int (f_X12_timesTold S)), (1, .int (S 99 3)), (0, .ref 100)] [.int ((g_X12_wrongs (Int32.ofInt 5) ((g_X12_timesTold S) 99 3) (g_X12_timesTold S)) 99 64), .int ((g_X12_wrongs (Int32.ofInt 5) ((g_X12_timesTold S) 99 3) (g_X12_timesTold S)) 99 65), .ref 135] (g_X12_wrongs (Int32.ofInt 5) ((g_X12_timesTold S) 99 3) (g_X12_timesTold S)) R _
            refine u_iast rfl rfl (fun b381 b382 => ?_)
            have hD := hD b381 b382
            show u_P L xs n d m_X12_monthTold 132 [(2, .int (f_X12_timesTold S)), (1, .int (S 99 3)), (0, .ref 100)] [] (z_s (g_X12_wrongs (Int32.ofInt 5) ((g_X12_timesTold S) 99 3) (g_X12_timesTold S)) 134 (((g_X12_wrongs (Int32.ofInt 5) ((g_X12_timesTold S) 99 3) (g_X12_timesTold S)) 99 65).toInt.toNat) ((g_X12_wrongs (Int32.ofInt 5) ((g_X12_timesTold S) 99 3) (g_X12_timesTold S)) 99 64)) R _
            refine u_st rfl (fun _ => rfl) ?_
            show u_P L xs n d m_X12_monthTold 133 [(2, .int (f_X12_timesTold S)), (1, .int (S 99 3)), (0, .ref 100)] [.ref 100] (z_s (g_X12_wrongs (Int32.ofInt 5) ((g_X12_timesTold S) 99 3) (g_X12_timesTold S)) 134 (((g_X12_wrongs (Int32.ofInt 5) ((g_X12_timesTold S) 99 3) (g_X12_timesTold S)) 99 65).toInt.toNat) ((g_X12_wrongs (Int32.ofInt 5) ((g_X12_timesTold S) 99 3) (g_X12_timesTold S)) 99 64)) R _
            refine u_getr rfl v_tyM rfl ?_
            refine u_st rfl (fun _ => rfl) ?_
            show u_P L xs n d m_X12_monthTold 137 [(2, .int (f_X12_timesTold S)), (1, .int (S 99 3)), (0, .ref 100)] [.ref 100, .ref 136] (z_s (g_X12_wrongs (Int32.ofInt 5) ((g_X12_timesTold S) 99 3) (g_X12_timesTold S)) 134 (((g_X12_wrongs (Int32.ofInt 5) ((g_X12_timesTold S) 99 3) (g_X12_timesTold S)) 99 65).toInt.toNat) ((g_X12_wrongs (Int32.ofInt 5) ((g_X12_timesTold S) 99 3) (g_X12_timesTold S)) 99 64)) R _
            refine u_getE (v := (g_X12_wrongs (Int32.ofInt 5) ((g_X12_timesTold S) 99 3) (g_X12_timesTold S)) 99 65) rfl v_tyM rfl (z_sn (fun h => absurd h.1 (by decide))) ?_
            refine u_st rfl (fun _ => rfl) ?_
            show u_P L xs n d m_X12_monthTold 141 [(2, .int (f_X12_timesTold S)), (1, .int (S 99 3)), (0, .ref 100)] [.int (f_X12_timesTold S), .int ((g_X12_wrongs (Int32.ofInt 5) ((g_X12_timesTold S) 99 3) (g_X12_timesTold S)) 99 65), .ref 136] (z_s (g_X12_wrongs (Int32.ofInt 5) ((g_X12_timesTold S) 99 3) (g_X12_timesTold S)) 134 (((g_X12_wrongs (Int32.ofInt 5) ((g_X12_timesTold S) 99 3) (g_X12_timesTold S)) 99 65).toInt.toNat) ((g_X12_wrongs (Int32.ofInt 5) ((g_X12_timesTold S) 99 3) (g_X12_timesTold S)) 99 64)) R _
            refine u_iast rfl rfl (fun b391 b392 => ?_)
            have hD := hD b391 b392
            show u_P L xs n d m_X12_monthTold 142 [(2, .int (f_X12_timesTold S)), (1, .int (S 99 3)), (0, .ref 100)] [] (z_s (z_s (g_X12_wrongs (Int32.ofInt 5) ((g_X12_timesTold S) 99 3) (g_X12_timesTold S)) 134 (((g_X12_wrongs (Int32.ofInt 5) ((g_X12_timesTold S) 99 3) (g_X12_timesTold S)) 99 65).toInt.toNat) ((g_X12_wrongs (Int32.ofInt 5) ((g_X12_timesTold S) 99 3) (g_X12_timesTold S)) 99 64)) 135 (((g_X12_wrongs (Int32.ofInt 5) ((g_X12_timesTold S) 99 3) (g_X12_timesTold S)) 99 65).toInt.toNat) (f_X12_timesTold S)) R _
            refine u_st rfl (fun _ => rfl) ?_
            show u_P L xs n d m_X12_monthTold 143 [(2, .int (f_X12_timesTold S)), (1, .int (S 99 3)), (0, .ref 100)] [.ref 100] (z_s (z_s (g_X12_wrongs (Int32.ofInt 5) ((g_X12_timesTold S) 99 3) (g_X12_timesTold S)) 134 (((g_X12_wrongs (Int32.ofInt 5) ((g_X12_timesTold S) 99 3) (g_X12_timesTold S)) 99 65).toInt.toNat) ((g_X12_wrongs (Int32.ofInt 5) ((g_X12_timesTold S) 99 3) (g_X12_timesTold S)) 99 64)) 135 (((g_X12_wrongs (Int32.ofInt 5) ((g_X12_timesTold S) 99 3) (g_X12_timesTold S)) 99 65).toInt.toNat) (f_X12_timesTold S)) R _
            refine u_getr rfl v_tyM rfl ?_
            refine u_st rfl (fun _ => rfl) ?_
            show u_P L xs n d m_X12_monthTold 147 [(2, .int (f_X12_timesTold S)), (1, .int (S 99 3)), (0, .ref 100)] [.ref 100, .ref 137] (z_s (z_s (g_X12_wrongs (Int32.ofInt 5) ((g_X12_timesTold S) 99 3) (g_X12_timesTold S)) 134 (((g_X12_wrongs (Int32.ofInt 5) ((g_X12_timesTold S) 99 3) (g_X12_timesTold S)) 99 65).toInt.toNat) ((g_X12_wrongs (Int32.ofInt 5) ((g_X12_timesTold S) 99 3) (g_X12_timesTold S)) 99 64)) 135 (((g_X12_wrongs (Int32.ofInt 5) ((g_X12_timesTold S) 99 3) (g_X12_timesTold S)) 99 65).toInt.toNat) (f_X12_timesTold S)) R _
            refine u_getE (v := (g_X12_wrongs (Int32.ofInt 5) ((g_X12_timesTold S) 99 3) (g_X12_timesTold S)) 99 65) rfl v_tyM rfl ((z_sn (fun h => absurd h.1 (by decide))).trans (z_sn (fun h => absurd h.1 (by decide)))) ?_
            refine u_st rfl (fun _ => rfl) ?_
            show u_P L xs n d m_X12_monthTold 151 [(2, .int (f_X12_timesTold S)), (1, .int (S 99 3)), (0, .ref 100)] [.int (S 99 3), .int ((g_X12_wrongs (Int32.ofInt 5) ((g_X12_timesTold S) 99 3) (g_X12_timesTold S)) 99 65), .ref 137] (z_s (z_s (g_X12_wrongs (Int32.ofInt 5) ((g_X12_timesTold S) 99 3) (g_X12_timesTold S)) 134 (((g_X12_wrongs (Int32.ofInt 5) ((g_X12_timesTold S) 99 3) (g_X12_timesTold S)) 99 65).toInt.toNat) ((g_X12_wrongs (Int32.ofInt 5) ((g_X12_timesTold S) 99 3) (g_X12_timesTold S)) 99 64)) 135 (((g_X12_wrongs (Int32.ofInt 5) ((g_X12_timesTold S) 99 3) (g_X12_timesTold S)) 99 65).toInt.toNat) (f_X12_timesTold S)) R _
            refine u_iast rfl rfl (fun b401 b402 => ?_)
            have hD := hD b401 b402
            show u_P L xs n d m_X12_monthTold 152 [(2, .int (f_X12_timesTold S)), (1, .int (S 99 3)), (0, .ref 100)] [] (z_s (z_s (z_s (g_X12_wrongs (Int32.ofInt 5) ((g_X12_timesTold S) 99 3) (g_X12_timesTold S)) 134 (((g_X12_wrongs (Int32.ofInt 5) ((g_X12_timesTold S) 99 3) (g_X12_timesTold S)) 99 65).toInt.toNat) ((g_X12_wrongs (Int32.ofInt 5) ((g_X12_timesTold S) 99 3) (g_X12_timesTold S)) 99 64)) 135 (((g_X12_wrongs (Int32.ofInt 5) ((g_X12_timesTold S) 99 3) (g_X12_timesTold S)) 99 65).toInt.toNat) (f_X12_timesTold S)) 136 (((g_X12_wrongs (Int32.ofInt 5) ((g_X12_timesTold S) 99 3) (g_X12_timesTold S)) 99 65).toInt.toNat) (S 99 3)) R _
            refine u_st rfl (fun _ => rfl) ?_
            refine u_st rfl (fun _ => rfl) ?_
            show u_P L xs n d m_X12_monthTold 154 [(2, .int (f_X12_timesTold S)), (1, .int (S 99 3)), (0, .ref 100)] [.ref 100, .ref 100] (z_s (z_s (z_s (g_X12_wrongs (Int32.ofInt 5) ((g_X12_timesTold S) 99 3) (g_X12_timesTold S)) 134 (((g_X12_wrongs (Int32.ofInt 5) ((g_X12_timesTold S) 99 3) (g_X12_timesTold S)) 99 65).toInt.toNat) ((g_X12_wrongs (Int32.ofInt 5) ((g_X12_timesTold S) 99 3) (g_X12_timesTold S)) 99 64)) 135 (((g_X12_wrongs (Int32.ofInt 5) ((g_X12_timesTold S) 99 3) (g_X12_timesTold S)) 99 65).toInt.toNat) (f_X12_timesTold S)) 136 (((g_X12_wrongs (Int32.ofInt 5) ((g_X12_timesTold S) 99 3) (g_X12_timesTold S)) 99 65).toInt.toNat) (S 99 3)) R _
            refine u_getE (v := (g_X12_wrongs (Int32.ofInt 5) ((g_X12_timesTold S) 99 3) (g_X12_timesTold S)) 99 65) rfl v_tyM rfl ((z_sn (fun h => absurd h.1 (by decide))).trans ((z_sn (fun h => absurd h.1 (by decide))).trans (z_sn (fun h => absurd h.1 (by decide))))) ?_
            refine u_st rfl (fun _ => rfl) ?_
            refine u_st rfl (fun _ => rfl) ?_
            show u_P L xs n d m_X12_monthTold 159 [(2, .int (f_X12_timesTold S)), (1, .int (S 99 3)), (0, .ref 100)] [.int (((g_X12_wrongs (Int32.ofInt 5) ((g_X12_timesTold S) 99 3) (g_X12_timesTold S)) 99 65) + (Int32.ofInt 1)), .ref 100] (z_s (z_s (z_s (g_X12_wrongs (Int32.ofInt 5) ((g_X12_timesTold S) 99 3) (g_X12_timesTold S)) 134 (((g_X12_wrongs (Int32.ofInt 5) ((g_X12_timesTold S) 99 3) (g_X12_timesTold S)) 99 65).toInt.toNat) ((g_X12_wrongs (Int32.ofInt 5) ((g_X12_timesTold S) 99 3) (g_X12_timesTold S)) 99 64)) 135 (((g_X12_wrongs (Int32.ofInt 5) ((g_X12_timesTold S) 99 3) (g_X12_timesTold S)) 99 65).toInt.toNat) (f_X12_timesTold S)) 136 (((g_X12_wrongs (Int32.ofInt 5) ((g_X12_timesTold S) 99 3) (g_X12_timesTold S)) 99 65).toInt.toNat) (S 99 3)) R _
            refine u_put rfl v_tyM rfl ?_
            refine u_st rfl (fun _ => rfl) ?_
            refine u_st rfl (fun _ => rfl) ?_
            show u_P L xs n d m_X12_monthTold 164 [(2, .int (f_X12_timesTold S)), (1, .int (S 99 3)), (0, .ref 100)] [.int (Int32.ofInt 0), .ref 100] (z_s (z_s (z_s (z_s (g_X12_wrongs (Int32.ofInt 5) ((g_X12_timesTold S) 99 3) (g_X12_timesTold S)) 134 (((g_X12_wrongs (Int32.ofInt 5) ((g_X12_timesTold S) 99 3) (g_X12_timesTold S)) 99 65).toInt.toNat) ((g_X12_wrongs (Int32.ofInt 5) ((g_X12_timesTold S) 99 3) (g_X12_timesTold S)) 99 64)) 135 (((g_X12_wrongs (Int32.ofInt 5) ((g_X12_timesTold S) 99 3) (g_X12_timesTold S)) 99 65).toInt.toNat) (f_X12_timesTold S)) 136 (((g_X12_wrongs (Int32.ofInt 5) ((g_X12_timesTold S) 99 3) (g_X12_timesTold S)) 99 65).toInt.toNat) (S 99 3)) 99 65 (((g_X12_wrongs (Int32.ofInt 5) ((g_X12_timesTold S) 99 3) (g_X12_timesTold S)) 99 65) + (Int32.ofInt 1))) R _
            refine u_put rfl v_tyM rfl ?_
            refine u_st rfl (fun _ => rfl) ?_
            refine u_st rfl (fun _ => rfl) ?_
            show u_P L xs n d m_X12_monthTold 169 [(2, .int (f_X12_timesTold S)), (1, .int (S 99 3)), (0, .ref 100)] [.ref 100, .ref 100] (z_s (z_s (z_s (z_s (z_s (g_X12_wrongs (Int32.ofInt 5) ((g_X12_timesTold S) 99 3) (g_X12_timesTold S)) 134 (((g_X12_wrongs (Int32.ofInt 5) ((g_X12_timesTold S) 99 3) (g_X12_timesTold S)) 99 65).toInt.toNat) ((g_X12_wrongs (Int32.ofInt 5) ((g_X12_timesTold S) 99 3) (g_X12_timesTold S)) 99 64)) 135 (((g_X12_wrongs (Int32.ofInt 5) ((g_X12_timesTold S) 99 3) (g_X12_timesTold S)) 99 65).toInt.toNat) (f_X12_timesTold S)) 136 (((g_X12_wrongs (Int32.ofInt 5) ((g_X12_timesTold S) 99 3) (g_X12_timesTold S)) 99 65).toInt.toNat) (S 99 3)) 99 65 (((g_X12_wrongs (Int32.ofInt 5) ((g_X12_timesTold S) 99 3) (g_X12_timesTold S)) 99 65) + (Int32.ofInt 1))) 99 66 (Int32.ofInt 0)) R _
            refine u_getE (v := (g_X12_wrongs (Int32.ofInt 5) ((g_X12_timesTold S) 99 3) (g_X12_timesTold S)) 99 3) rfl v_tyM rfl ((z_sn (fun h => absurd h.2 (by decide))).trans ((z_sn (fun h => absurd h.2 (by decide))).trans ((z_sn (fun h => absurd h.1 (by decide))).trans ((z_sn (fun h => absurd h.1 (by decide))).trans (z_sn (fun h => absurd h.1 (by decide))))))) ?_
            refine u_st rfl (fun _ => rfl) ?_
            refine u_st rfl (fun _ => rfl) ?_
            show u_P L xs n d m_X12_monthTold 174 [(2, .int (f_X12_timesTold S)), (1, .int (S 99 3)), (0, .ref 100)] [.int (((g_X12_wrongs (Int32.ofInt 5) ((g_X12_timesTold S) 99 3) (g_X12_timesTold S)) 99 3) + (Int32.ofInt 1)), .ref 100] (z_s (z_s (z_s (z_s (z_s (g_X12_wrongs (Int32.ofInt 5) ((g_X12_timesTold S) 99 3) (g_X12_timesTold S)) 134 (((g_X12_wrongs (Int32.ofInt 5) ((g_X12_timesTold S) 99 3) (g_X12_timesTold S)) 99 65).toInt.toNat) ((g_X12_wrongs (Int32.ofInt 5) ((g_X12_timesTold S) 99 3) (g_X12_timesTold S)) 99 64)) 135 (((g_X12_wrongs (Int32.ofInt 5) ((g_X12_timesTold S) 99 3) (g_X12_timesTold S)) 99 65).toInt.toNat) (f_X12_timesTold S)) 136 (((g_X12_wrongs (Int32.ofInt 5) ((g_X12_timesTold S) 99 3) (g_X12_timesTold S)) 99 65).toInt.toNat) (S 99 3)) 99 65 (((g_X12_wrongs (Int32.ofInt 5) ((g_X12_timesTold S) 99 3) (g_X12_timesTold S)) 99 65) + (Int32.ofInt 1))) 99 66 (Int32.ofInt 0)) R _
            refine u_put rfl v_tyM rfl ?_
            show u_P L xs n d m_X12_monthTold 177 [(2, .int (f_X12_timesTold S)), (1, .int (S 99 3)), (0, .ref 100)] [] (z_s (z_s (z_s (z_s (z_s (z_s (g_X12_wrongs (Int32.ofInt 5) ((g_X12_timesTold S) 99 3) (g_X12_timesTold S)) 134 (((g_X12_wrongs (Int32.ofInt 5) ((g_X12_timesTold S) 99 3) (g_X12_timesTold S)) 99 65).toInt.toNat) ((g_X12_wrongs (Int32.ofInt 5) ((g_X12_timesTold S) 99 3) (g_X12_timesTold S)) 99 64)) 135 (((g_X12_wrongs (Int32.ofInt 5) ((g_X12_timesTold S) 99 3) (g_X12_timesTold S)) 99 65).toInt.toNat) (f_X12_timesTold S)) 136 (((g_X12_wrongs (Int32.ofInt 5) ((g_X12_timesTold S) 99 3) (g_X12_timesTold S)) 99 65).toInt.toNat) (S 99 3)) 99 65 (((g_X12_wrongs (Int32.ofInt 5) ((g_X12_timesTold S) 99 3) (g_X12_timesTold S)) 99 65) + (Int32.ofInt 1))) 99 66 (Int32.ofInt 0)) 99 3 (((g_X12_wrongs (Int32.ofInt 5) ((g_X12_timesTold S) 99 3) (g_X12_timesTold S)) 99 3) + (Int32.ofInt 1))) R _
            exact u_ret rfl rfl ⟨rfl, rfl, hD⟩
          · have hD := hD.2 h37
            show u_P L xs n d m_X12_monthTold 118 [(2, .int (f_X12_timesTold S)), (1, .int (S 99 3)), (0, .ref 100)] [] (g_X12_wrongs (Int32.ofInt 5) ((g_X12_timesTold S) 99 3) (g_X12_timesTold S)) R _
            exact u_ret rfl rfl ⟨rfl, rfl, hD⟩
    · have hD := hD.2 h21
      show u_P L xs n d m_X12_monthTold 21 [(1, .int (S 99 3)), (0, .ref 100)] [] S R _
      refine u_st rfl (fun _ => rfl) ?_
      show u_P L xs n d m_X12_monthTold 22 [(1, .int (S 99 3)), (0, .ref 100)] [.ref 100] S R _
      refine u_getE (v := S 99 66) rfl v_tyM rfl rfl ?_
      show u_P L xs n d m_X12_monthTold 25 [(1, .int (S 99 3)), (0, .ref 100)] [.int (S 99 66)] S R _
      refine u_if_eq rfl (fun h41 => ?_) (fun h41 => ?_)
      · have hD := hD.1 h41
        show u_P L xs n d m_X12_monthTold 80 [(1, .int (S 99 3)), (0, .ref 100)] [] S R _
        refine u_st rfl (fun _ => rfl) ?_
        show u_P L xs n d m_X12_monthTold 81 [(1, .int (S 99 3)), (0, .ref 100)] [.ref 100] S R _
        refine u_cv (rest := []) rfl (by decide) mt_X12_timesTold v_tyM rfl rfl rfl (Nat.le_of_ble_eq_true rfl) (Nat.le_of_ble_eq_true rfl) (Nat.le_of_ble_eq_true rfl) (fun d' => c_X12_timesTold L xs n d' S R) ?_
        rintro _ _ _ ⟨_, rfl, rfl, rfl, rfl⟩
        refine u_st rfl (fun _ => rfl) ?_
        refine u_st rfl (fun _ => rfl) ?_
        show u_P L xs n d m_X12_monthTold 86 [(2, .int (f_X12_timesTold S)), (1, .int (S 99 3)), (0, .ref 100)] [.ref 100] (g_X12_timesTold S) R _
        refine u_cv (rest := []) rfl (by decide) mt_X12_here v_tyM rfl rfl rfl (Nat.le_of_ble_eq_true rfl) (Nat.le_of_ble_eq_true rfl) (Nat.le_of_ble_eq_true rfl) (fun d' => c_X12_here L xs n d' (g_X12_timesTold S) R) ?_
        rintro _ _ _ ⟨_, rfl, rfl, rfl, rfl⟩
        refine u_st rfl (fun _ => rfl) ?_
        show u_P L xs n d m_X12_monthTold 91 [(2, .int (f_X12_timesTold S)), (1, .int (S 99 3)), (0, .ref 100)] [.int (Int32.ofInt 40), .int (f_X12_here (g_X12_timesTold S))] (g_X12_timesTold S) R _
        refine u_ic_ne rfl (fun h42 => ?_) (fun h42 => ?_)
        · have hD := hD.1 h42
          show u_P L xs n d m_X12_monthTold 178 [(2, .int (f_X12_timesTold S)), (1, .int (S 99 3)), (0, .ref 100)] [] (g_X12_timesTold S) R _
          refine u_st rfl (fun _ => rfl) ?_
          show u_P L xs n d m_X12_monthTold 179 [(2, .int (f_X12_timesTold S)), (1, .int (S 99 3)), (0, .ref 100)] [.ref 100] (g_X12_timesTold S) R _
          refine u_cv (rest := []) rfl (by decide) mt_X12_here v_tyM rfl rfl rfl (Nat.le_of_ble_eq_true rfl) (Nat.le_of_ble_eq_true rfl) (Nat.le_of_ble_eq_true rfl) (fun d' => c_X12_here L xs n d' (g_X12_timesTold S) R) ?_
          rintro _ _ _ ⟨_, rfl, rfl, rfl, rfl⟩
          refine u_st rfl (fun _ => rfl) ?_
          show u_P L xs n d m_X12_monthTold 184 [(2, .int (f_X12_timesTold S)), (1, .int (S 99 3)), (0, .ref 100)] [.int (Int32.ofInt 46), .int (f_X12_here (g_X12_timesTold S))] (g_X12_timesTold S) R _
          refine u_ic_eq rfl (fun h43 => ?_) (fun h43 => ?_)
          · have hD := hD.1 h43
            show u_P L xs n d m_X12_monthTold 216 [(2, .int (f_X12_timesTold S)), (1, .int (S 99 3)), (0, .ref 100)] [] (g_X12_timesTold S) R _
            refine u_st rfl (fun _ => rfl) ?_
            show u_P L xs n d m_X12_monthTold 217 [(2, .int (f_X12_timesTold S)), (1, .int (S 99 3)), (0, .ref 100)] [.ref 100] (g_X12_timesTold S) R _
            refine u_getE (v := (g_X12_timesTold S) 99 64) rfl v_tyM rfl rfl ?_
            refine u_st rfl (fun _ => rfl) ?_
            refine u_st rfl (fun _ => rfl) ?_
            refine u_st rfl (fun _ => rfl) ?_
            show u_P L xs n d m_X12_monthTold 224 [(2, .int (f_X12_timesTold S)), (1, .int (S 99 3)), (0, .ref 100)] [.int (Int32.ofInt 48), .int (((g_X12_timesTold S) 99 64) + (f_X12_timesTold S))] (g_X12_timesTold S) R _
            refine u_ic_le rfl (fun h44 => ?_) (fun h44 => ?_)
            · have hD := hD.1 h44
              show u_P L xs n d m_X12_monthTold 234 [(2, .int (f_X12_timesTold S)), (1, .int (S 99 3)), (0, .ref 100)] [] (g_X12_timesTold S) R _
              refine u_st rfl (fun _ => rfl) ?_
              show u_P L xs n d m_X12_monthTold 235 [(2, .int (f_X12_timesTold S)), (1, .int (S 99 3)), (0, .ref 100)] [.ref 100] (g_X12_timesTold S) R _
              refine u_cv (rest := []) rfl (by decide) mt_X12_isGood v_tyM rfl rfl rfl (Nat.le_of_ble_eq_true rfl) (Nat.le_of_ble_eq_true rfl) (Nat.le_of_ble_eq_true rfl) (fun d' => c_X12_isGood L xs n d' (g_X12_timesTold S) R) ?_
              rintro _ _ _ ⟨_, rfl, rfl, rfl, rfl⟩
              show u_P L xs n d m_X12_monthTold 238 [(2, .int (f_X12_timesTold S)), (1, .int (S 99 3)), (0, .ref 100)] [.int (f_X12_isGood (g_X12_timesTold S))] (g_X12_timesTold S) R _
              refine u_if_ne rfl (fun h45 => ?_) (fun h45 => ?_)
              · have hD := hD.1 h45
                show u_P L xs n d m_X12_monthTold 242 [(2, .int (f_X12_timesTold S)), (1, .int (S 99 3)), (0, .ref 100)] [] (g_X12_timesTold S) R _
                refine u_st rfl (fun _ => rfl) ?_
                refine u_st rfl (fun _ => rfl) ?_
                refine u_lc (b := [(0, .ref 100), (1, .int (S 99 3)), (2, .int (f_X12_timesTold S)), (3, .int (Int32.ofInt 0))]) (show ([3, 2, 1, 0] : List Nat).Nodup by decide) (show ([0, 1, 2, 3] : List Nat).Nodup by decide) (fun i => match i with | 0 => rfl | 1 => rfl | 2 => rfl | 3 => rfl | _ + 4 => rfl) ?_
                exact (hd_X12_monthTold L xs H244 K k244 n) d (S 99 3) (f_X12_timesTold S) (Int32.ofInt 0) (g_X12_timesTold S) hD
              · have hD := hD.2 h45
                show u_P L xs n d m_X12_monthTold 241 [(2, .int (f_X12_timesTold S)), (1, .int (S 99 3)), (0, .ref 100)] [] (g_X12_timesTold S) R _
                exact u_ret rfl rfl ⟨rfl, rfl, hD⟩
            · have hD := hD.2 h44
              show u_P L xs n d m_X12_monthTold 227 [(2, .int (f_X12_timesTold S)), (1, .int (S 99 3)), (0, .ref 100)] [] (g_X12_timesTold S) R _
              refine u_st rfl (fun _ => rfl) ?_
              refine u_st rfl (fun _ => rfl) ?_
              refine u_st rfl (fun _ => rfl) ?_
              show u_P L xs n d m_X12_monthTold 231 [(2, .int (f_X12_timesTold S)), (1, .int (S 99 3)), (0, .ref 100)] [.int (S 99 3), .int (Int32.ofInt 6), .ref 100] (g_X12_timesTold S) R _
              refine u_cv (rest := []) rfl (by decide) mt_X12_wrongs v_tyM rfl rfl rfl (Nat.le_of_ble_eq_true rfl) (Nat.le_of_ble_eq_true rfl) (Nat.le_of_ble_eq_true rfl) (fun d' => c_X12_wrongs L xs n d' (Int32.ofInt 6) (S 99 3) (g_X12_timesTold S) R) ?_
              rintro _ _ _ ⟨rfl, rfl, rfl⟩
              refine u_st rfl (fun _ => rfl) ?_
              show u_P L xs n d m_X12_monthTold 235 [(2, .int (f_X12_timesTold S)), (1, .int (S 99 3)), (0, .ref 100)] [.ref 100] (g_X12_wrongs (Int32.ofInt 6) (S 99 3) (g_X12_timesTold S)) R _
              refine u_cv (rest := []) rfl (by decide) mt_X12_isGood v_tyM rfl rfl rfl (Nat.le_of_ble_eq_true rfl) (Nat.le_of_ble_eq_true rfl) (Nat.le_of_ble_eq_true rfl) (fun d' => c_X12_isGood L xs n d' (g_X12_wrongs (Int32.ofInt 6) (S 99 3) (g_X12_timesTold S)) R) ?_
              rintro _ _ _ ⟨_, rfl, rfl, rfl, rfl⟩
              show u_P L xs n d m_X12_monthTold 238 [(2, .int (f_X12_timesTold S)), (1, .int (S 99 3)), (0, .ref 100)] [.int (f_X12_isGood (g_X12_wrongs (Int32.ofInt 6) (S 99 3) (g_X12_timesTold S)))] (g_X12_wrongs (Int32.ofInt 6) (S 99 3) (g_X12_timesTold S)) R _
              refine u_if_ne rfl (fun h46 => ?_) (fun h46 => ?_)
              · have hD := hD.1 h46
                show u_P L xs n d m_X12_monthTold 242 [(2, .int (f_X12_timesTold S)), (1, .int (S 99 3)), (0, .ref 100)] [] (g_X12_wrongs (Int32.ofInt 6) (S 99 3) (g_X12_timesTold S)) R _
                refine u_st rfl (fun _ => rfl) ?_
                refine u_st rfl (fun _ => rfl) ?_
                refine u_lc (b := [(0, .ref 100), (1, .int (S 99 3)), (2, .int (f_X12_timesTold S)), (3, .int (Int32.ofInt 0))]) (show ([3, 2, 1, 0] : List Nat).Nodup by decide) (show ([0, 1, 2, 3] : List Nat).Nodup by decide) (fun i => match i with | 0 => rfl | 1 => rfl | 2 => rfl | 3 => rfl | _ + 4 => rfl) ?_
                exact (hd_X12_monthTold L xs H244 K k244 n) d (S 99 3) (f_X12_timesTold S) (Int32.ofInt 0) (g_X12_wrongs (Int32.ofInt 6) (S 99 3) (g_X12_timesTold S)) hD
              · have hD := hD.2 h46
                show u_P L xs n d m_X12_monthTold 241 [(2, .int (f_X12_timesTold S)), (1, .int (S 99 3)), (0, .ref 100)] [] (g_X12_wrongs (Int32.ofInt 6) (S 99 3) (g_X12_timesTold S)) R _
                exact u_ret rfl rfl ⟨rfl, rfl, hD⟩
          · have hD := hD.2 h43
            show u_P L xs n d m_X12_monthTold 187 [(2, .int (f_X12_timesTold S)), (1, .int (S 99 3)), (0, .ref 100)] [] (g_X12_timesTold S) R _
            refine u_st rfl (fun _ => rfl) ?_
            show u_P L xs n d m_X12_monthTold 188 [(2, .int (f_X12_timesTold S)), (1, .int (S 99 3)), (0, .ref 100)] [.ref 100] (g_X12_timesTold S) R _
            refine u_cv (rest := []) rfl (by decide) mt_X12_here v_tyM rfl rfl rfl (Nat.le_of_ble_eq_true rfl) (Nat.le_of_ble_eq_true rfl) (Nat.le_of_ble_eq_true rfl) (fun d' => c_X12_here L xs n d' (g_X12_timesTold S) R) ?_
            rintro _ _ _ ⟨_, rfl, rfl, rfl, rfl⟩
            refine u_st rfl (fun _ => rfl) ?_
            refine u_st rfl (fun _ => rfl) ?_
            refine u_st rfl (fun _ => rfl) ?_
            show u_P L xs n d m_X12_monthTold 198 [(2, .int (f_X12_timesTold S)), (1, .int (S 99 3)), (0, .ref 100)] [.long (Int64.ofInt 74), .long (Int64.ofInt 65), .long ((f_X12_here (g_X12_timesTold S)).toInt64)] (g_X12_timesTold S) R _
            refine u_cs (ac := [.long ((f_X12_here (g_X12_timesTold S)).toInt64), .long (Int64.ofInt 65), .long (Int64.ofInt 74)]) (rest := []) rfl (by decide) mt_X12_lies (fun _ => rfl) (Nat.le_of_ble_eq_true rfl) (Nat.le_of_ble_eq_true rfl) (fun d' => z_liesC L xs n d' ((f_X12_here (g_X12_timesTold S))) (Int64.ofInt 65) (Int64.ofInt 74) (lo := 65) (hi := 74) rfl rfl (g_X12_timesTold S) R) ?_
            rintro _ _ _ ⟨_, rfl, rfl, rfl, rfl⟩
            show u_P L xs n d m_X12_monthTold 201 [(2, .int (f_X12_timesTold S)), (1, .int (S 99 3)), (0, .ref 100)] [.int (z_in ((f_X12_here (g_X12_timesTold S))) 65 74)] (g_X12_timesTold S) R _
            refine u_if_ne rfl (fun h47 => ?_) (fun h47 => ?_)
            · have hD := hD.1 h47
              show u_P L xs n d m_X12_monthTold 216 [(2, .int (f_X12_timesTold S)), (1, .int (S 99 3)), (0, .ref 100)] [] (g_X12_timesTold S) R _
              refine u_st rfl (fun _ => rfl) ?_
              show u_P L xs n d m_X12_monthTold 217 [(2, .int (f_X12_timesTold S)), (1, .int (S 99 3)), (0, .ref 100)] [.ref 100] (g_X12_timesTold S) R _
              refine u_getE (v := (g_X12_timesTold S) 99 64) rfl v_tyM rfl rfl ?_
              refine u_st rfl (fun _ => rfl) ?_
              refine u_st rfl (fun _ => rfl) ?_
              refine u_st rfl (fun _ => rfl) ?_
              show u_P L xs n d m_X12_monthTold 224 [(2, .int (f_X12_timesTold S)), (1, .int (S 99 3)), (0, .ref 100)] [.int (Int32.ofInt 48), .int (((g_X12_timesTold S) 99 64) + (f_X12_timesTold S))] (g_X12_timesTold S) R _
              refine u_ic_le rfl (fun h48 => ?_) (fun h48 => ?_)
              · have hD := hD.1 h48
                show u_P L xs n d m_X12_monthTold 234 [(2, .int (f_X12_timesTold S)), (1, .int (S 99 3)), (0, .ref 100)] [] (g_X12_timesTold S) R _
                refine u_st rfl (fun _ => rfl) ?_
                show u_P L xs n d m_X12_monthTold 235 [(2, .int (f_X12_timesTold S)), (1, .int (S 99 3)), (0, .ref 100)] [.ref 100] (g_X12_timesTold S) R _
                refine u_cv (rest := []) rfl (by decide) mt_X12_isGood v_tyM rfl rfl rfl (Nat.le_of_ble_eq_true rfl) (Nat.le_of_ble_eq_true rfl) (Nat.le_of_ble_eq_true rfl) (fun d' => c_X12_isGood L xs n d' (g_X12_timesTold S) R) ?_
                rintro _ _ _ ⟨_, rfl, rfl, rfl, rfl⟩
                show u_P L xs n d m_X12_monthTold 238 [(2, .int (f_X12_timesTold S)), (1, .int (S 99 3)), (0, .ref 100)] [.int (f_X12_isGood (g_X12_timesTold S))] (g_X12_timesTold S) R _
                refine u_if_ne rfl (fun h49 => ?_) (fun h49 => ?_)
                · have hD := hD.1 h49
                  show u_P L xs n d m_X12_monthTold 242 [(2, .int (f_X12_timesTold S)), (1, .int (S 99 3)), (0, .ref 100)] [] (g_X12_timesTold S) R _
                  refine u_st rfl (fun _ => rfl) ?_
                  refine u_st rfl (fun _ => rfl) ?_
                  refine u_lc (b := [(0, .ref 100), (1, .int (S 99 3)), (2, .int (f_X12_timesTold S)), (3, .int (Int32.ofInt 0))]) (show ([3, 2, 1, 0] : List Nat).Nodup by decide) (show ([0, 1, 2, 3] : List Nat).Nodup by decide) (fun i => match i with | 0 => rfl | 1 => rfl | 2 => rfl | 3 => rfl | _ + 4 => rfl) ?_
                  exact (hd_X12_monthTold L xs H244 K k244 n) d (S 99 3) (f_X12_timesTold S) (Int32.ofInt 0) (g_X12_timesTold S) hD
                · have hD := hD.2 h49
                  show u_P L xs n d m_X12_monthTold 241 [(2, .int (f_X12_timesTold S)), (1, .int (S 99 3)), (0, .ref 100)] [] (g_X12_timesTold S) R _
                  exact u_ret rfl rfl ⟨rfl, rfl, hD⟩
              · have hD := hD.2 h48
                show u_P L xs n d m_X12_monthTold 227 [(2, .int (f_X12_timesTold S)), (1, .int (S 99 3)), (0, .ref 100)] [] (g_X12_timesTold S) R _
                refine u_st rfl (fun _ => rfl) ?_
                refine u_st rfl (fun _ => rfl) ?_
                refine u_st rfl (fun _ => rfl) ?_
                show u_P L xs n d m_X12_monthTold 231 [(2, .int (f_X12_timesTold S)), (1, .int (S 99 3)), (0, .ref 100)] [.int (S 99 3), .int (Int32.ofInt 6), .ref 100] (g_X12_timesTold S) R _
                refine u_cv (rest := []) rfl (by decide) mt_X12_wrongs v_tyM rfl rfl rfl (Nat.le_of_ble_eq_true rfl) (Nat.le_of_ble_eq_true rfl) (Nat.le_of_ble_eq_true rfl) (fun d' => c_X12_wrongs L xs n d' (Int32.ofInt 6) (S 99 3) (g_X12_timesTold S) R) ?_
                rintro _ _ _ ⟨rfl, rfl, rfl⟩
                refine u_st rfl (fun _ => rfl) ?_
                show u_P L xs n d m_X12_monthTold 235 [(2, .int (f_X12_timesTold S)), (1, .int (S 99 3)), (0, .ref 100)] [.ref 100] (g_X12_wrongs (Int32.ofInt 6) (S 99 3) (g_X12_timesTold S)) R _
                refine u_cv (rest := []) rfl (by decide) mt_X12_isGood v_tyM rfl rfl rfl (Nat.le_of_ble_eq_true rfl) (Nat.le_of_ble_eq_true rfl) (Nat.le_of_ble_eq_true rfl) (fun d' => c_X12_isGood L xs n d' (g_X12_wrongs (Int32.ofInt 6) (S 99 3) (g_X12_timesTold S)) R) ?_
                rintro _ _ _ ⟨_, rfl, rfl, rfl, rfl⟩
                show u_P L xs n d m_X12_monthTold 238 [(2, .int (f_X12_timesTold S)), (1, .int (S 99 3)), (0, .ref 100)] [.int (f_X12_isGood (g_X12_wrongs (Int32.ofInt 6) (S 99 3) (g_X12_timesTold S)))] (g_X12_wrongs (Int32.ofInt 6) (S 99 3) (g_X12_timesTold S)) R _
                refine u_if_ne rfl (fun h50 => ?_) (fun h50 => ?_)
                · have hD := hD.1 h50
                  show u_P L xs n d m_X12_monthTold 242 [(2, .int (f_X12_timesTold S)), (1, .int (S 99 3)), (0, .ref 100)] [] (g_X12_wrongs (Int32.ofInt 6) (S 99 3) (g_X12_timesTold S)) R _
                  refine u_st rfl (fun _ => rfl) ?_
                  refine u_st rfl (fun _ => rfl) ?_
                  refine u_lc (b := [(0, .ref 100), (1, .int (S 99 3)), (2, .int (f_X12_timesTold S)), (3, .int (Int32.ofInt 0))]) (show ([3, 2, 1, 0] : List Nat).Nodup by decide) (show ([0, 1, 2, 3] : List Nat).Nodup by decide) (fun i => match i with | 0 => rfl | 1 => rfl | 2 => rfl | 3 => rfl | _ + 4 => rfl) ?_
                  exact (hd_X12_monthTold L xs H244 K k244 n) d (S 99 3) (f_X12_timesTold S) (Int32.ofInt 0) (g_X12_wrongs (Int32.ofInt 6) (S 99 3) (g_X12_timesTold S)) hD
                · have hD := hD.2 h50
                  show u_P L xs n d m_X12_monthTold 241 [(2, .int (f_X12_timesTold S)), (1, .int (S 99 3)), (0, .ref 100)] [] (g_X12_wrongs (Int32.ofInt 6) (S 99 3) (g_X12_timesTold S)) R _
                  exact u_ret rfl rfl ⟨rfl, rfl, hD⟩
            · have hD := hD.2 h47
              show u_P L xs n d m_X12_monthTold 204 [(2, .int (f_X12_timesTold S)), (1, .int (S 99 3)), (0, .ref 100)] [] (g_X12_timesTold S) R _
              refine u_st rfl (fun _ => rfl) ?_
              refine u_st rfl (fun _ => rfl) ?_
              refine u_st rfl (fun _ => rfl) ?_
              show u_P L xs n d m_X12_monthTold 207 [(2, .int (f_X12_timesTold S)), (1, .int (S 99 3)), (0, .ref 100)] [.ref 100, .int (Int32.ofInt 1), .ref 100] (g_X12_timesTold S) R _
              refine u_getE (v := (g_X12_timesTold S) 99 3) rfl v_tyM rfl rfl ?_
              show u_P L xs n d m_X12_monthTold 210 [(2, .int (f_X12_timesTold S)), (1, .int (S 99 3)), (0, .ref 100)] [.int ((g_X12_timesTold S) 99 3), .int (Int32.ofInt 1), .ref 100] (g_X12_timesTold S) R _
              refine u_cv (rest := []) rfl (by decide) mt_X12_wrongs v_tyM rfl rfl rfl (Nat.le_of_ble_eq_true rfl) (Nat.le_of_ble_eq_true rfl) (Nat.le_of_ble_eq_true rfl) (fun d' => c_X12_wrongs L xs n d' (Int32.ofInt 1) ((g_X12_timesTold S) 99 3) (g_X12_timesTold S) R) ?_
              rintro _ _ _ ⟨rfl, rfl, rfl⟩
              refine u_st rfl (fun _ => rfl) ?_
              refine u_st rfl (fun _ => rfl) ?_
              show u_P L xs n d m_X12_monthTold 235 [(2, .int (f_X12_timesTold S)), (1, .int (S 99 3)), (0, .ref 100)] [.ref 100] (g_X12_wrongs (Int32.ofInt 1) ((g_X12_timesTold S) 99 3) (g_X12_timesTold S)) R _
              refine u_cv (rest := []) rfl (by decide) mt_X12_isGood v_tyM rfl rfl rfl (Nat.le_of_ble_eq_true rfl) (Nat.le_of_ble_eq_true rfl) (Nat.le_of_ble_eq_true rfl) (fun d' => c_X12_isGood L xs n d' (g_X12_wrongs (Int32.ofInt 1) ((g_X12_timesTold S) 99 3) (g_X12_timesTold S)) R) ?_
              rintro _ _ _ ⟨_, rfl, rfl, rfl, rfl⟩
              show u_P L xs n d m_X12_monthTold 238 [(2, .int (f_X12_timesTold S)), (1, .int (S 99 3)), (0, .ref 100)] [.int (f_X12_isGood (g_X12_wrongs (Int32.ofInt 1) ((g_X12_timesTold S) 99 3) (g_X12_timesTold S)))] (g_X12_wrongs (Int32.ofInt 1) ((g_X12_timesTold S) 99 3) (g_X12_timesTold S)) R _
              refine u_if_ne rfl (fun h51 => ?_) (fun h51 => ?_)
              · have hD := hD.1 h51
                show u_P L xs n d m_X12_monthTold 242 [(2, .int (f_X12_timesTold S)), (1, .int (S 99 3)), (0, .ref 100)] [] (g_X12_wrongs (Int32.ofInt 1) ((g_X12_timesTold S) 99 3) (g_X12_timesTold S)) R _
                refine u_st rfl (fun _ => rfl) ?_
                refine u_st rfl (fun _ => rfl) ?_
                refine u_lc (b := [(0, .ref 100), (1, .int (S 99 3)), (2, .int (f_X12_timesTold S)), (3, .int (Int32.ofInt 0))]) (show ([3, 2, 1, 0] : List Nat).Nodup by decide) (show ([0, 1, 2, 3] : List Nat).Nodup by decide) (fun i => match i with | 0 => rfl | 1 => rfl | 2 => rfl | 3 => rfl | _ + 4 => rfl) ?_
                exact (hd_X12_monthTold L xs H244 K k244 n) d (S 99 3) (f_X12_timesTold S) (Int32.ofInt 0) (g_X12_wrongs (Int32.ofInt 1) ((g_X12_timesTold S) 99 3) (g_X12_timesTold S)) hD
              · have hD := hD.2 h51
                show u_P L xs n d m_X12_monthTold 241 [(2, .int (f_X12_timesTold S)), (1, .int (S 99 3)), (0, .ref 100)] [] (g_X12_wrongs (Int32.ofInt 1) ((g_X12_timesTold S) 99 3) (g_X12_timesTold S)) R _
                exact u_ret rfl rfl ⟨rfl, rfl, hD⟩
        · have hD := hD.2 h42
          show u_P L xs n d m_X12_monthTold 94 [(2, .int (f_X12_timesTold S)), (1, .int (S 99 3)), (0, .ref 100)] [] (g_X12_timesTold S) R _
          refine u_st rfl (fun _ => rfl) ?_
          show u_P L xs n d m_X12_monthTold 95 [(2, .int (f_X12_timesTold S)), (1, .int (S 99 3)), (0, .ref 100)] [.ref 100] (g_X12_timesTold S) R _
          refine u_getE (v := (g_X12_timesTold S) 99 65) rfl v_tyM rfl rfl ?_
          refine u_st rfl (fun _ => rfl) ?_
          show u_P L xs n d m_X12_monthTold 99 [(2, .int (f_X12_timesTold S)), (1, .int (S 99 3)), (0, .ref 100)] [.int (Int32.ofInt 2), .int ((g_X12_timesTold S) 99 65)] (g_X12_timesTold S) R _
          refine u_ic_ne rfl (fun h52 => ?_) (fun h52 => ?_)
          · have hD := hD.1 h52
            show u_P L xs n d m_X12_monthTold 111 [(2, .int (f_X12_timesTold S)), (1, .int (S 99 3)), (0, .ref 100)] [] (g_X12_timesTold S) R _
            refine u_st rfl (fun _ => rfl) ?_
            show u_P L xs n d m_X12_monthTold 112 [(2, .int (f_X12_timesTold S)), (1, .int (S 99 3)), (0, .ref 100)] [.ref 100] (g_X12_timesTold S) R _
            refine u_cv (rest := []) rfl (by decide) mt_X12_isGood v_tyM rfl rfl rfl (Nat.le_of_ble_eq_true rfl) (Nat.le_of_ble_eq_true rfl) (Nat.le_of_ble_eq_true rfl) (fun d' => c_X12_isGood L xs n d' (g_X12_timesTold S) R) ?_
            rintro _ _ _ ⟨_, rfl, rfl, rfl, rfl⟩
            show u_P L xs n d m_X12_monthTold 115 [(2, .int (f_X12_timesTold S)), (1, .int (S 99 3)), (0, .ref 100)] [.int (f_X12_isGood (g_X12_timesTold S))] (g_X12_timesTold S) R _
            refine u_if_ne rfl (fun h53 => ?_) (fun h53 => ?_)
            · have hD := hD.1 h53
              show u_P L xs n d m_X12_monthTold 119 [(2, .int (f_X12_timesTold S)), (1, .int (S 99 3)), (0, .ref 100)] [] (g_X12_timesTold S) R _
              refine u_st rfl (fun _ => rfl) ?_
              show u_P L xs n d m_X12_monthTold 120 [(2, .int (f_X12_timesTold S)), (1, .int (S 99 3)), (0, .ref 100)] [.ref 100] (g_X12_timesTold S) R _
              refine u_getr rfl v_tyM rfl ?_
              refine u_st rfl (fun _ => rfl) ?_
              show u_P L xs n d m_X12_monthTold 124 [(2, .int (f_X12_timesTold S)), (1, .int (S 99 3)), (0, .ref 100)] [.ref 100, .ref 135] (g_X12_timesTold S) R _
              refine u_getE (v := (g_X12_timesTold S) 99 65) rfl v_tyM rfl rfl ?_
              refine u_st rfl (fun _ => rfl) ?_
              show u_P L xs n d m_X12_monthTold 128 [(2, .int (f_X12_timesTold S)), (1, .int (S 99 3)), (0, .ref 100)] [.ref 100, .int ((g_X12_timesTold S) 99 65), .ref 135] (g_X12_timesTold S) R _
              refine u_getE (v := (g_X12_timesTold S) 99 64) rfl v_tyM rfl rfl ?_
              show u_P L xs n d m_X12_monthTold 131 [(2, .int (f_X12_timesTold S)), (1, .int (S 99 3)), (0, .ref 100)] [.int ((g_X12_timesTold S) 99 64), .int ((g_X12_timesTold S) 99 65), .ref 135] (g_X12_timesTold S) R _
              refine u_iast rfl rfl (fun b541 b542 => ?_)
              have hD := hD b541 b542
              show u_P L xs n d m_X12_monthTold 132 [(2, .int (f_X12_timesTold S)), (1, .int (S 99 3)), (0, .ref 100)] [] (z_s (g_X12_timesTold S) 134 (((g_X12_timesTold S) 99 65).toInt.toNat) ((g_X12_timesTold S) 99 64)) R _
              refine u_st rfl (fun _ => rfl) ?_
              show u_P L xs n d m_X12_monthTold 133 [(2, .int (f_X12_timesTold S)), (1, .int (S 99 3)), (0, .ref 100)] [.ref 100] (z_s (g_X12_timesTold S) 134 (((g_X12_timesTold S) 99 65).toInt.toNat) ((g_X12_timesTold S) 99 64)) R _
              refine u_getr rfl v_tyM rfl ?_
              refine u_st rfl (fun _ => rfl) ?_
              show u_P L xs n d m_X12_monthTold 137 [(2, .int (f_X12_timesTold S)), (1, .int (S 99 3)), (0, .ref 100)] [.ref 100, .ref 136] (z_s (g_X12_timesTold S) 134 (((g_X12_timesTold S) 99 65).toInt.toNat) ((g_X12_timesTold S) 99 64)) R _
              refine u_getE (v := (g_X12_timesTold S) 99 65) rfl v_tyM rfl (z_sn (fun h => absurd h.1 (by decide))) ?_
              refine u_st rfl (fun _ => rfl) ?_
              show u_P L xs n d m_X12_monthTold 141 [(2, .int (f_X12_timesTold S)), (1, .int (S 99 3)), (0, .ref 100)] [.int (f_X12_timesTold S), .int ((g_X12_timesTold S) 99 65), .ref 136] (z_s (g_X12_timesTold S) 134 (((g_X12_timesTold S) 99 65).toInt.toNat) ((g_X12_timesTold S) 99 64)) R _
              refine u_iast rfl rfl (fun b551 b552 => ?_)
              have hD := hD b551 b552
              show u_P L xs n d m_X12_monthTold 142 [(2, .int (f_X12_timesTold S)), (1, .int (S 99 3)), (0, .ref 100)] [] (z_s (z_s (g_X12_timesTold S) 134 (((g_X12_timesTold S) 99 65).toInt.toNat) ((g_X12_timesTold S) 99 64)) 135 (((g_X12_timesTold S) 99 65).toInt.toNat) (f_X12_timesTold S)) R _
              refine u_st rfl (fun _ => rfl) ?_
              show u_P L xs n d m_X12_monthTold 143 [(2, .int (f_X12_timesTold S)), (1, .int (S 99 3)), (0, .ref 100)] [.ref 100] (z_s (z_s (g_X12_timesTold S) 134 (((g_X12_timesTold S) 99 65).toInt.toNat) ((g_X12_timesTold S) 99 64)) 135 (((g_X12_timesTold S) 99 65).toInt.toNat) (f_X12_timesTold S)) R _
              refine u_getr rfl v_tyM rfl ?_
              refine u_st rfl (fun _ => rfl) ?_
              show u_P L xs n d m_X12_monthTold 147 [(2, .int (f_X12_timesTold S)), (1, .int (S 99 3)), (0, .ref 100)] [.ref 100, .ref 137] (z_s (z_s (g_X12_timesTold S) 134 (((g_X12_timesTold S) 99 65).toInt.toNat) ((g_X12_timesTold S) 99 64)) 135 (((g_X12_timesTold S) 99 65).toInt.toNat) (f_X12_timesTold S)) R _
              refine u_getE (v := (g_X12_timesTold S) 99 65) rfl v_tyM rfl ((z_sn (fun h => absurd h.1 (by decide))).trans (z_sn (fun h => absurd h.1 (by decide)))) ?_
              refine u_st rfl (fun _ => rfl) ?_
              show u_P L xs n d m_X12_monthTold 151 [(2, .int (f_X12_timesTold S)), (1, .int (S 99 3)), (0, .ref 100)] [.int (S 99 3), .int ((g_X12_timesTold S) 99 65), .ref 137] (z_s (z_s (g_X12_timesTold S) 134 (((g_X12_timesTold S) 99 65).toInt.toNat) ((g_X12_timesTold S) 99 64)) 135 (((g_X12_timesTold S) 99 65).toInt.toNat) (f_X12_timesTold S)) R _
              refine u_iast rfl rfl (fun b561 b562 => ?_)
              have hD := hD b561 b562
              show u_P L xs n d m_X12_monthTold 152 [(2, .int (f_X12_timesTold S)), (1, .int (S 99 3)), (0, .ref 100)] [] (z_s (z_s (z_s (g_X12_timesTold S) 134 (((g_X12_timesTold S) 99 65).toInt.toNat) ((g_X12_timesTold S) 99 64)) 135 (((g_X12_timesTold S) 99 65).toInt.toNat) (f_X12_timesTold S)) 136 (((g_X12_timesTold S) 99 65).toInt.toNat) (S 99 3)) R _
              refine u_st rfl (fun _ => rfl) ?_
              refine u_st rfl (fun _ => rfl) ?_
              show u_P L xs n d m_X12_monthTold 154 [(2, .int (f_X12_timesTold S)), (1, .int (S 99 3)), (0, .ref 100)] [.ref 100, .ref 100] (z_s (z_s (z_s (g_X12_timesTold S) 134 (((g_X12_timesTold S) 99 65).toInt.toNat) ((g_X12_timesTold S) 99 64)) 135 (((g_X12_timesTold S) 99 65).toInt.toNat) (f_X12_timesTold S)) 136 (((g_X12_timesTold S) 99 65).toInt.toNat) (S 99 3)) R _
              refine u_getE (v := (g_X12_timesTold S) 99 65) rfl v_tyM rfl ((z_sn (fun h => absurd h.1 (by decide))).trans ((z_sn (fun h => absurd h.1 (by decide))).trans (z_sn (fun h => absurd h.1 (by decide))))) ?_
              refine u_st rfl (fun _ => rfl) ?_
              refine u_st rfl (fun _ => rfl) ?_
              show u_P L xs n d m_X12_monthTold 159 [(2, .int (f_X12_timesTold S)), (1, .int (S 99 3)), (0, .ref 100)] [.int (((g_X12_timesTold S) 99 65) + (Int32.ofInt 1)), .ref 100] (z_s (z_s (z_s (g_X12_timesTold S) 134 (((g_X12_timesTold S) 99 65).toInt.toNat) ((g_X12_timesTold S) 99 64)) 135 (((g_X12_timesTold S) 99 65).toInt.toNat) (f_X12_timesTold S)) 136 (((g_X12_timesTold S) 99 65).toInt.toNat) (S 99 3)) R _
              refine u_put rfl v_tyM rfl ?_
              refine u_st rfl (fun _ => rfl) ?_
              refine u_st rfl (fun _ => rfl) ?_
              show u_P L xs n d m_X12_monthTold 164 [(2, .int (f_X12_timesTold S)), (1, .int (S 99 3)), (0, .ref 100)] [.int (Int32.ofInt 0), .ref 100] (z_s (z_s (z_s (z_s (g_X12_timesTold S) 134 (((g_X12_timesTold S) 99 65).toInt.toNat) ((g_X12_timesTold S) 99 64)) 135 (((g_X12_timesTold S) 99 65).toInt.toNat) (f_X12_timesTold S)) 136 (((g_X12_timesTold S) 99 65).toInt.toNat) (S 99 3)) 99 65 (((g_X12_timesTold S) 99 65) + (Int32.ofInt 1))) R _
              refine u_put rfl v_tyM rfl ?_
              refine u_st rfl (fun _ => rfl) ?_
              refine u_st rfl (fun _ => rfl) ?_
              show u_P L xs n d m_X12_monthTold 169 [(2, .int (f_X12_timesTold S)), (1, .int (S 99 3)), (0, .ref 100)] [.ref 100, .ref 100] (z_s (z_s (z_s (z_s (z_s (g_X12_timesTold S) 134 (((g_X12_timesTold S) 99 65).toInt.toNat) ((g_X12_timesTold S) 99 64)) 135 (((g_X12_timesTold S) 99 65).toInt.toNat) (f_X12_timesTold S)) 136 (((g_X12_timesTold S) 99 65).toInt.toNat) (S 99 3)) 99 65 (((g_X12_timesTold S) 99 65) + (Int32.ofInt 1))) 99 66 (Int32.ofInt 0)) R _
              refine u_getE (v := (g_X12_timesTold S) 99 3) rfl v_tyM rfl ((z_sn (fun h => absurd h.2 (by decide))).trans ((z_sn (fun h => absurd h.2 (by decide))).trans ((z_sn (fun h => absurd h.1 (by decide))).trans ((z_sn (fun h => absurd h.1 (by decide))).trans (z_sn (fun h => absurd h.1 (by decide))))))) ?_
              refine u_st rfl (fun _ => rfl) ?_
              refine u_st rfl (fun _ => rfl) ?_
              show u_P L xs n d m_X12_monthTold 174 [(2, .int (f_X12_timesTold S)), (1, .int (S 99 3)), (0, .ref 100)] [.int (((g_X12_timesTold S) 99 3) + (Int32.ofInt 1)), .ref 100] (z_s (z_s (z_s (z_s (z_s (g_X12_timesTold S) 134 (((g_X12_timesTold S) 99 65).toInt.toNat) ((g_X12_timesTold S) 99 64)) 135 (((g_X12_timesTold S) 99 65).toInt.toNat) (f_X12_timesTold S)) 136 (((g_X12_timesTold S) 99 65).toInt.toNat) (S 99 3)) 99 65 (((g_X12_timesTold S) 99 65) + (Int32.ofInt 1))) 99 66 (Int32.ofInt 0)) R _
              refine u_put rfl v_tyM rfl ?_
              show u_P L xs n d m_X12_monthTold 177 [(2, .int (f_X12_timesTold S)), (1, .int (S 99 3)), (0, .ref 100)] [] (z_s (z_s (z_s (z_s (z_s (z_s (g_X12_timesTold S) 134 (((g_X12_timesTold S) 99 65).toInt.toNat) ((g_X12_timesTold S) 99 64)) 135 (((g_X12_timesTold S) 99 65).toInt.toNat) (f_X12_timesTold S)) 136 (((g_X12_timesTold S) 99 65).toInt.toNat) (S 99 3)) 99 65 (((g_X12_timesTold S) 99 65) + (Int32.ofInt 1))) 99 66 (Int32.ofInt 0)) 99 3 (((g_X12_timesTold S) 99 3) + (Int32.ofInt 1))) R _
              exact u_ret rfl rfl ⟨rfl, rfl, hD⟩
            · have hD := hD.2 h53
              show u_P L xs n d m_X12_monthTold 118 [(2, .int (f_X12_timesTold S)), (1, .int (S 99 3)), (0, .ref 100)] [] (g_X12_timesTold S) R _
              exact u_ret rfl rfl ⟨rfl, rfl, hD⟩
          · have hD := hD.2 h52
            show u_P L xs n d m_X12_monthTold 102 [(2, .int (f_X12_timesTold S)), (1, .int (S 99 3)), (0, .ref 100)] [] (g_X12_timesTold S) R _
            refine u_st rfl (fun _ => rfl) ?_
            refine u_st rfl (fun _ => rfl) ?_
            refine u_st rfl (fun _ => rfl) ?_
            show u_P L xs n d m_X12_monthTold 105 [(2, .int (f_X12_timesTold S)), (1, .int (S 99 3)), (0, .ref 100)] [.ref 100, .int (Int32.ofInt 5), .ref 100] (g_X12_timesTold S) R _
            refine u_getE (v := (g_X12_timesTold S) 99 3) rfl v_tyM rfl rfl ?_
            show u_P L xs n d m_X12_monthTold 108 [(2, .int (f_X12_timesTold S)), (1, .int (S 99 3)), (0, .ref 100)] [.int ((g_X12_timesTold S) 99 3), .int (Int32.ofInt 5), .ref 100] (g_X12_timesTold S) R _
            refine u_cv (rest := []) rfl (by decide) mt_X12_wrongs v_tyM rfl rfl rfl (Nat.le_of_ble_eq_true rfl) (Nat.le_of_ble_eq_true rfl) (Nat.le_of_ble_eq_true rfl) (fun d' => c_X12_wrongs L xs n d' (Int32.ofInt 5) ((g_X12_timesTold S) 99 3) (g_X12_timesTold S) R) ?_
            rintro _ _ _ ⟨rfl, rfl, rfl⟩
            refine u_st rfl (fun _ => rfl) ?_
            show u_P L xs n d m_X12_monthTold 112 [(2, .int (f_X12_timesTold S)), (1, .int (S 99 3)), (0, .ref 100)] [.ref 100] (g_X12_wrongs (Int32.ofInt 5) ((g_X12_timesTold S) 99 3) (g_X12_timesTold S)) R _
            refine u_cv (rest := []) rfl (by decide) mt_X12_isGood v_tyM rfl rfl rfl (Nat.le_of_ble_eq_true rfl) (Nat.le_of_ble_eq_true rfl) (Nat.le_of_ble_eq_true rfl) (fun d' => c_X12_isGood L xs n d' (g_X12_wrongs (Int32.ofInt 5) ((g_X12_timesTold S) 99 3) (g_X12_timesTold S)) R) ?_
            rintro _ _ _ ⟨_, rfl, rfl, rfl, rfl⟩
            show u_P L xs n d m_X12_monthTold 115 [(2, .int (f_X12_timesTold S)), (1, .int (S 99 3)), (0, .ref 100)] [.int (f_X12_isGood (g_X12_wrongs (Int32.ofInt 5) ((g_X12_timesTold S) 99 3) (g_X12_timesTold S)))] (g_X12_wrongs (Int32.ofInt 5) ((g_X12_timesTold S) 99 3) (g_X12_timesTold S)) R _
            refine u_if_ne rfl (fun h57 => ?_) (fun h57 => ?_)
            · have hD := hD.1 h57
              show u_P L xs n d m_X12_monthTold 119 [(2, .int (f_X12_timesTold S)), (1, .int (S 99 3)), (0, .ref 100)] [] (g_X12_wrongs (Int32.ofInt 5) ((g_X12_timesTold S) 99 3) (g_X12_timesTold S)) R _
              refine u_st rfl (fun _ => rfl) ?_
              show u_P L xs n d m_X12_monthTold 120 [(2, .int (f_X12_timesTold S)), (1, .int (S 99 3)), (0, .ref 100)] [.ref 100] (g_X12_wrongs (Int32.ofInt 5) ((g_X12_timesTold S) 99 3) (g_X12_timesTold S)) R _
              refine u_getr rfl v_tyM rfl ?_
              refine u_st rfl (fun _ => rfl) ?_
              show u_P L xs n d m_X12_monthTold 124 [(2, .int (f_X12_timesTold S)), (1, .int (S 99 3)), (0, .ref 100)] [.ref 100, .ref 135] (g_X12_wrongs (Int32.ofInt 5) ((g_X12_timesTold S) 99 3) (g_X12_timesTold S)) R _
              refine u_getE (v := (g_X12_wrongs (Int32.ofInt 5) ((g_X12_timesTold S) 99 3) (g_X12_timesTold S)) 99 65) rfl v_tyM rfl rfl ?_
              refine u_st rfl (fun _ => rfl) ?_
              show u_P L xs n d m_X12_monthTold 128 [(2, .int (f_X12_timesTold S)), (1, .int (S 99 3)), (0, .ref 100)] [.ref 100, .int ((g_X12_wrongs (Int32.ofInt 5) ((g_X12_timesTold S) 99 3) (g_X12_timesTold S)) 99 65), .ref 135] (g_X12_wrongs (Int32.ofInt 5) ((g_X12_timesTold S) 99 3) (g_X12_timesTold S)) R _
              refine u_getE (v := (g_X12_wrongs (Int32.ofInt 5) ((g_X12_timesTold S) 99 3) (g_X12_timesTold S)) 99 64) rfl v_tyM rfl rfl ?_
              show u_P L xs n d m_X12_monthTold 131 [(2, .int (f_X12_timesTold S)), (1, .int (S 99 3)), (0, .ref 100)] [.int ((g_X12_wrongs (Int32.ofInt 5) ((g_X12_timesTold S) 99 3) (g_X12_timesTold S)) 99 64), .int ((g_X12_wrongs (Int32.ofInt 5) ((g_X12_timesTold S) 99 3) (g_X12_timesTold S)) 99 65), .ref 135] (g_X12_wrongs (Int32.ofInt 5) ((g_X12_timesTold S) 99 3) (g_X12_timesTold S)) R _
              refine u_iast rfl rfl (fun b581 b582 => ?_)
              have hD := hD b581 b582
              show u_P L xs n d m_X12_monthTold 132 [(2, .int (f_X12_timesTold S)), (1, .int (S 99 3)), (0, .ref 100)] [] (z_s (g_X12_wrongs (Int32.ofInt 5) ((g_X12_timesTold S) 99 3) (g_X12_timesTold S)) 134 (((g_X12_wrongs (Int32.ofInt 5) ((g_X12_timesTold S) 99 3) (g_X12_timesTold S)) 99 65).toInt.toNat) ((g_X12_wrongs (Int32.ofInt 5) ((g_X12_timesTold S) 99 3) (g_X12_timesTold S)) 99 64)) R _
              refine u_st rfl (fun _ => rfl) ?_
              show u_P L xs n d m_X12_monthTold 133 [(2, .int (f_X12_timesTold S)), (1, .int (S 99 3)), (0, .ref 100)] [.ref 100] (z_s (g_X12_wrongs (Int32.ofInt 5) ((g_X12_timesTold S) 99 3) (g_X12_timesTold S)) 134 (((g_X12_wrongs (Int32.ofInt 5) ((g_X12_timesTold S) 99 3) (g_X12_timesTold S)) 99 65).toInt.toNat) ((g_X12_wrongs (Int32.ofInt 5) ((g_X12_timesTold S) 99 3) (g_X12_timesTold S)) 99 64)) R _
              refine u_getr rfl v_tyM rfl ?_
              refine u_st rfl (fun _ => rfl) ?_
              show u_P L xs n d m_X12_monthTold 137 [(2, .int (f_X12_timesTold S)), (1, .int (S 99 3)), (0, .ref 100)] [.ref 100, .ref 136] (z_s (g_X12_wrongs (Int32.ofInt 5) ((g_X12_timesTold S) 99 3) (g_X12_timesTold S)) 134 (((g_X12_wrongs (Int32.ofInt 5) ((g_X12_timesTold S) 99 3) (g_X12_timesTold S)) 99 65).toInt.toNat) ((g_X12_wrongs (Int32.ofInt 5) ((g_X12_timesTold S) 99 3) (g_X12_timesTold S)) 99 64)) R _
              refine u_getE (v := (g_X12_wrongs (Int32.ofInt 5) ((g_X12_timesTold S) 99 3) (g_X12_timesTold S)) 99 65) rfl v_tyM rfl (z_sn (fun h => absurd h.1 (by decide))) ?_
              refine u_st rfl (fun _ => rfl) ?_
              show u_P L xs n d m_X12_monthTold 141 [(2, .int (f_X12_timesTold S)), (1, .int (S 99 3)), (0, .ref 100)] [.int (f_X12_timesTold S), .int ((g_X12_wrongs (Int32.ofInt 5) ((g_X12_timesTold S) 99 3) (g_X12_timesTold S)) 99 65), .ref 136] (z_s (g_X12_wrongs (Int32.ofInt 5) ((g_X12_timesTold S) 99 3) (g_X12_timesTold S)) 134 (((g_X12_wrongs (Int32.ofInt 5) ((g_X12_timesTold S) 99 3) (g_X12_timesTold S)) 99 65).toInt.toNat) ((g_X12_wrongs (Int32.ofInt 5) ((g_X12_timesTold S) 99 3) (g_X12_timesTold S)) 99 64)) R _
              refine u_iast rfl rfl (fun b591 b592 => ?_)
              have hD := hD b591 b592
              show u_P L xs n d m_X12_monthTold 142 [(2, .int (f_X12_timesTold S)), (1, .int (S 99 3)), (0, .ref 100)] [] (z_s (z_s (g_X12_wrongs (Int32.ofInt 5) ((g_X12_timesTold S) 99 3) (g_X12_timesTold S)) 134 (((g_X12_wrongs (Int32.ofInt 5) ((g_X12_timesTold S) 99 3) (g_X12_timesTold S)) 99 65).toInt.toNat) ((g_X12_wrongs (Int32.ofInt 5) ((g_X12_timesTold S) 99 3) (g_X12_timesTold S)) 99 64)) 135 (((g_X12_wrongs (Int32.ofInt 5) ((g_X12_timesTold S) 99 3) (g_X12_timesTold S)) 99 65).toInt.toNat) (f_X12_timesTold S)) R _
              refine u_st rfl (fun _ => rfl) ?_
              show u_P L xs n d m_X12_monthTold 143 [(2, .int (f_X12_timesTold S)), (1, .int (S 99 3)), (0, .ref 100)] [.ref 100] (z_s (z_s (g_X12_wrongs (Int32.ofInt 5) ((g_X12_timesTold S) 99 3) (g_X12_timesTold S)) 134 (((g_X12_wrongs (Int32.ofInt 5) ((g_X12_timesTold S) 99 3) (g_X12_timesTold S)) 99 65).toInt.toNat) ((g_X12_wrongs (Int32.ofInt 5) ((g_X12_timesTold S) 99 3) (g_X12_timesTold S)) 99 64)) 135 (((g_X12_wrongs (Int32.ofInt 5) ((g_X12_timesTold S) 99 3) (g_X12_timesTold S)) 99 65).toInt.toNat) (f_X12_timesTold S)) R _
              refine u_getr rfl v_tyM rfl ?_
              refine u_st rfl (fun _ => rfl) ?_
              show u_P L xs n d m_X12_monthTold 147 [(2, .int (f_X12_timesTold S)), (1, .int (S 99 3)), (0, .ref 100)] [.ref 100, .ref 137] (z_s (z_s (g_X12_wrongs (Int32.ofInt 5) ((g_X12_timesTold S) 99 3) (g_X12_timesTold S)) 134 (((g_X12_wrongs (Int32.ofInt 5) ((g_X12_timesTold S) 99 3) (g_X12_timesTold S)) 99 65).toInt.toNat) ((g_X12_wrongs (Int32.ofInt 5) ((g_X12_timesTold S) 99 3) (g_X12_timesTold S)) 99 64)) 135 (((g_X12_wrongs (Int32.ofInt 5) ((g_X12_timesTold S) 99 3) (g_X12_timesTold S)) 99 65).toInt.toNat) (f_X12_timesTold S)) R _
              refine u_getE (v := (g_X12_wrongs (Int32.ofInt 5) ((g_X12_timesTold S) 99 3) (g_X12_timesTold S)) 99 65) rfl v_tyM rfl ((z_sn (fun h => absurd h.1 (by decide))).trans (z_sn (fun h => absurd h.1 (by decide)))) ?_
              refine u_st rfl (fun _ => rfl) ?_
              show u_P L xs n d m_X12_monthTold 151 [(2, .int (f_X12_timesTold S)), (1, .int (S 99 3)), (0, .ref 100)] [.int (S 99 3), .int ((g_X12_wrongs (Int32.ofInt 5) ((g_X12_timesTold S) 99 3) (g_X12_timesTold S)) 99 65), .ref 137] (z_s (z_s (g_X12_wrongs (Int32.ofInt 5) ((g_X12_timesTold S) 99 3) (g_X12_timesTold S)) 134 (((g_X12_wrongs (Int32.ofInt 5) ((g_X12_timesTold S) 99 3) (g_X12_timesTold S)) 99 65).toInt.toNat) ((g_X12_wrongs (Int32.ofInt 5) ((g_X12_timesTold S) 99 3) (g_X12_timesTold S)) 99 64)) 135 (((g_X12_wrongs (Int32.ofInt 5) ((g_X12_timesTold S) 99 3) (g_X12_timesTold S)) 99 65).toInt.toNat) (f_X12_timesTold S)) R _
              refine u_iast rfl rfl (fun b601 b602 => ?_)
              have hD := hD b601 b602
              show u_P L xs n d m_X12_monthTold 152 [(2, .int (f_X12_timesTold S)), (1, .int (S 99 3)), (0, .ref 100)] [] (z_s (z_s (z_s (g_X12_wrongs (Int32.ofInt 5) ((g_X12_timesTold S) 99 3) (g_X12_timesTold S)) 134 (((g_X12_wrongs (Int32.ofInt 5) ((g_X12_timesTold S) 99 3) (g_X12_timesTold S)) 99 65).toInt.toNat) ((g_X12_wrongs (Int32.ofInt 5) ((g_X12_timesTold S) 99 3) (g_X12_timesTold S)) 99 64)) 135 (((g_X12_wrongs (Int32.ofInt 5) ((g_X12_timesTold S) 99 3) (g_X12_timesTold S)) 99 65).toInt.toNat) (f_X12_timesTold S)) 136 (((g_X12_wrongs (Int32.ofInt 5) ((g_X12_timesTold S) 99 3) (g_X12_timesTold S)) 99 65).toInt.toNat) (S 99 3)) R _
              refine u_st rfl (fun _ => rfl) ?_
              refine u_st rfl (fun _ => rfl) ?_
              show u_P L xs n d m_X12_monthTold 154 [(2, .int (f_X12_timesTold S)), (1, .int (S 99 3)), (0, .ref 100)] [.ref 100, .ref 100] (z_s (z_s (z_s (g_X12_wrongs (Int32.ofInt 5) ((g_X12_timesTold S) 99 3) (g_X12_timesTold S)) 134 (((g_X12_wrongs (Int32.ofInt 5) ((g_X12_timesTold S) 99 3) (g_X12_timesTold S)) 99 65).toInt.toNat) ((g_X12_wrongs (Int32.ofInt 5) ((g_X12_timesTold S) 99 3) (g_X12_timesTold S)) 99 64)) 135 (((g_X12_wrongs (Int32.ofInt 5) ((g_X12_timesTold S) 99 3) (g_X12_timesTold S)) 99 65).toInt.toNat) (f_X12_timesTold S)) 136 (((g_X12_wrongs (Int32.ofInt 5) ((g_X12_timesTold S) 99 3) (g_X12_timesTold S)) 99 65).toInt.toNat) (S 99 3)) R _
              refine u_getE (v := (g_X12_wrongs (Int32.ofInt 5) ((g_X12_timesTold S) 99 3) (g_X12_timesTold S)) 99 65) rfl v_tyM rfl ((z_sn (fun h => absurd h.1 (by decide))).trans ((z_sn (fun h => absurd h.1 (by decide))).trans (z_sn (fun h => absurd h.1 (by decide))))) ?_
              refine u_st rfl (fun _ => rfl) ?_
              refine u_st rfl (fun _ => rfl) ?_
              show u_P L xs n d m_X12_monthTold 159 [(2, .int (f_X12_timesTold S)), (1, .int (S 99 3)), (0, .ref 100)] [.int (((g_X12_wrongs (Int32.ofInt 5) ((g_X12_timesTold S) 99 3) (g_X12_timesTold S)) 99 65) + (Int32.ofInt 1)), .ref 100] (z_s (z_s (z_s (g_X12_wrongs (Int32.ofInt 5) ((g_X12_timesTold S) 99 3) (g_X12_timesTold S)) 134 (((g_X12_wrongs (Int32.ofInt 5) ((g_X12_timesTold S) 99 3) (g_X12_timesTold S)) 99 65).toInt.toNat) ((g_X12_wrongs (Int32.ofInt 5) ((g_X12_timesTold S) 99 3) (g_X12_timesTold S)) 99 64)) 135 (((g_X12_wrongs (Int32.ofInt 5) ((g_X12_timesTold S) 99 3) (g_X12_timesTold S)) 99 65).toInt.toNat) (f_X12_timesTold S)) 136 (((g_X12_wrongs (Int32.ofInt 5) ((g_X12_timesTold S) 99 3) (g_X12_timesTold S)) 99 65).toInt.toNat) (S 99 3)) R _
              refine u_put rfl v_tyM rfl ?_
              refine u_st rfl (fun _ => rfl) ?_
              refine u_st rfl (fun _ => rfl) ?_
              show u_P L xs n d m_X12_monthTold 164 [(2, .int (f_X12_timesTold S)), (1, .int (S 99 3)), (0, .ref 100)] [.int (Int32.ofInt 0), .ref 100] (z_s (z_s (z_s (z_s (g_X12_wrongs (Int32.ofInt 5) ((g_X12_timesTold S) 99 3) (g_X12_timesTold S)) 134 (((g_X12_wrongs (Int32.ofInt 5) ((g_X12_timesTold S) 99 3) (g_X12_timesTold S)) 99 65).toInt.toNat) ((g_X12_wrongs (Int32.ofInt 5) ((g_X12_timesTold S) 99 3) (g_X12_timesTold S)) 99 64)) 135 (((g_X12_wrongs (Int32.ofInt 5) ((g_X12_timesTold S) 99 3) (g_X12_timesTold S)) 99 65).toInt.toNat) (f_X12_timesTold S)) 136 (((g_X12_wrongs (Int32.ofInt 5) ((g_X12_timesTold S) 99 3) (g_X12_timesTold S)) 99 65).toInt.toNat) (S 99 3)) 99 65 (((g_X12_wrongs (Int32.ofInt 5) ((g_X12_timesTold S) 99 3) (g_X12_timesTold S)) 99 65) + (Int32.ofInt 1))) R _
              refine u_put rfl v_tyM rfl ?_
              refine u_st rfl (fun _ => rfl) ?_
              refine u_st rfl (fun _ => rfl) ?_
              show u_P L xs n d m_X12_monthTold 169 [(2, .int (f_X12_timesTold S)), (1, .int (S 99 3)), (0, .ref 100)] [.ref 100, .ref 100] (z_s (z_s (z_s (z_s (z_s (g_X12_wrongs (Int32.ofInt 5) ((g_X12_timesTold S) 99 3) (g_X12_timesTold S)) 134 (((g_X12_wrongs (Int32.ofInt 5) ((g_X12_timesTold S) 99 3) (g_X12_timesTold S)) 99 65).toInt.toNat) ((g_X12_wrongs (Int32.ofInt 5) ((g_X12_timesTold S) 99 3) (g_X12_timesTold S)) 99 64)) 135 (((g_X12_wrongs (Int32.ofInt 5) ((g_X12_timesTold S) 99 3) (g_X12_timesTold S)) 99 65).toInt.toNat) (f_X12_timesTold S)) 136 (((g_X12_wrongs (Int32.ofInt 5) ((g_X12_timesTold S) 99 3) (g_X12_timesTold S)) 99 65).toInt.toNat) (S 99 3)) 99 65 (((g_X12_wrongs (Int32.ofInt 5) ((g_X12_timesTold S) 99 3) (g_X12_timesTold S)) 99 65) + (Int32.ofInt 1))) 99 66 (Int32.ofInt 0)) R _
              refine u_getE (v := (g_X12_wrongs (Int32.ofInt 5) ((g_X12_timesTold S) 99 3) (g_X12_timesTold S)) 99 3) rfl v_tyM rfl ((z_sn (fun h => absurd h.2 (by decide))).trans ((z_sn (fun h => absurd h.2 (by decide))).trans ((z_sn (fun h => absurd h.1 (by decide))).trans ((z_sn (fun h => absurd h.1 (by decide))).trans (z_sn (fun h => absurd h.1 (by decide))))))) ?_
              refine u_st rfl (fun _ => rfl) ?_
              refine u_st rfl (fun _ => rfl) ?_
              show u_P L xs n d m_X12_monthTold 174 [(2, .int (f_X12_timesTold S)), (1, .int (S 99 3)), (0, .ref 100)] [.int (((g_X12_wrongs (Int32.ofInt 5) ((g_X12_timesTold S) 99 3) (g_X12_timesTold S)) 99 3) + (Int32.ofInt 1)), .ref 100] (z_s (z_s (z_s (z_s (z_s (g_X12_wrongs (Int32.ofInt 5) ((g_X12_timesTold S) 99 3) (g_X12_timesTold S)) 134 (((g_X12_wrongs (Int32.ofInt 5) ((g_X12_timesTold S) 99 3) (g_X12_timesTold S)) 99 65).toInt.toNat) ((g_X12_wrongs (Int32.ofInt 5) ((g_X12_timesTold S) 99 3) (g_X12_timesTold S)) 99 64)) 135 (((g_X12_wrongs (Int32.ofInt 5) ((g_X12_timesTold S) 99 3) (g_X12_timesTold S)) 99 65).toInt.toNat) (f_X12_timesTold S)) 136 (((g_X12_wrongs (Int32.ofInt 5) ((g_X12_timesTold S) 99 3) (g_X12_timesTold S)) 99 65).toInt.toNat) (S 99 3)) 99 65 (((g_X12_wrongs (Int32.ofInt 5) ((g_X12_timesTold S) 99 3) (g_X12_timesTold S)) 99 65) + (Int32.ofInt 1))) 99 66 (Int32.ofInt 0)) R _
              refine u_put rfl v_tyM rfl ?_
              show u_P L xs n d m_X12_monthTold 177 [(2, .int (f_X12_timesTold S)), (1, .int (S 99 3)), (0, .ref 100)] [] (z_s (z_s (z_s (z_s (z_s (z_s (g_X12_wrongs (Int32.ofInt 5) ((g_X12_timesTold S) 99 3) (g_X12_timesTold S)) 134 (((g_X12_wrongs (Int32.ofInt 5) ((g_X12_timesTold S) 99 3) (g_X12_timesTold S)) 99 65).toInt.toNat) ((g_X12_wrongs (Int32.ofInt 5) ((g_X12_timesTold S) 99 3) (g_X12_timesTold S)) 99 64)) 135 (((g_X12_wrongs (Int32.ofInt 5) ((g_X12_timesTold S) 99 3) (g_X12_timesTold S)) 99 65).toInt.toNat) (f_X12_timesTold S)) 136 (((g_X12_wrongs (Int32.ofInt 5) ((g_X12_timesTold S) 99 3) (g_X12_timesTold S)) 99 65).toInt.toNat) (S 99 3)) 99 65 (((g_X12_wrongs (Int32.ofInt 5) ((g_X12_timesTold S) 99 3) (g_X12_timesTold S)) 99 65) + (Int32.ofInt 1))) 99 66 (Int32.ofInt 0)) 99 3 (((g_X12_wrongs (Int32.ofInt 5) ((g_X12_timesTold S) 99 3) (g_X12_timesTold S)) 99 3) + (Int32.ofInt 1))) R _
              exact u_ret rfl rfl ⟨rfl, rfl, hD⟩
            · have hD := hD.2 h57
              show u_P L xs n d m_X12_monthTold 118 [(2, .int (f_X12_timesTold S)), (1, .int (S 99 3)), (0, .ref 100)] [] (g_X12_wrongs (Int32.ofInt 5) ((g_X12_timesTold S) 99 3) (g_X12_timesTold S)) R _
              exact u_ret rfl rfl ⟨rfl, rfl, hD⟩
      · have hD := hD.2 h41
        show u_P L xs n d m_X12_monthTold 28 [(1, .int (S 99 3)), (0, .ref 100)] [] S R _
        refine u_st rfl (fun _ => rfl) ?_
        refine u_st rfl (fun _ => rfl) ?_
        show u_P L xs n d m_X12_monthTold 30 [(1, .int (S 99 3)), (0, .ref 100)] [.ref 100, .ref 100] S R _
        refine u_getE (v := S 99 65) rfl v_tyM rfl rfl ?_
        refine u_st rfl (fun _ => rfl) ?_
        refine u_st rfl (fun _ => rfl) ?_
        show u_P L xs n d m_X12_monthTold 35 [(1, .int (S 99 3)), (0, .ref 100)] [.int ((S 99 65) - (Int32.ofInt 1)), .ref 100] S R _
        refine u_put rfl v_tyM rfl ?_
        refine u_st rfl (fun _ => rfl) ?_
        refine u_st rfl (fun _ => rfl) ?_
        show u_P L xs n d m_X12_monthTold 40 [(1, .int (S 99 3)), (0, .ref 100)] [.ref 100, .ref 100] (z_s S 99 65 ((S 99 65) - (Int32.ofInt 1))) R _
        refine u_getE (v := S 99 3) rfl v_tyM rfl (z_sn (fun h => absurd h.2 (by decide))) ?_
        refine u_st rfl (fun _ => rfl) ?_
        refine u_st rfl (fun _ => rfl) ?_
        show u_P L xs n d m_X12_monthTold 45 [(1, .int (S 99 3)), (0, .ref 100)] [.int ((S 99 3) + (Int32.ofInt 1)), .ref 100] (z_s S 99 65 ((S 99 65) - (Int32.ofInt 1))) R _
        refine u_put rfl v_tyM rfl ?_
        refine u_st rfl (fun _ => rfl) ?_
        refine u_st rfl (fun _ => rfl) ?_
        show u_P L xs n d m_X12_monthTold 50 [(1, .int (S 99 3)), (0, .ref 100)] [.ref 100, .ref 100] (z_s (z_s S 99 65 ((S 99 65) - (Int32.ofInt 1))) 99 3 ((S 99 3) + (Int32.ofInt 1))) R _
        refine u_getr rfl v_tyM rfl ?_
        refine u_st rfl (fun _ => rfl) ?_
        show u_P L xs n d m_X12_monthTold 54 [(1, .int (S 99 3)), (0, .ref 100)] [.ref 100, .ref 135, .ref 100] (z_s (z_s S 99 65 ((S 99 65) - (Int32.ofInt 1))) 99 3 ((S 99 3) + (Int32.ofInt 1))) R _
        refine u_getE (v := (S 99 65) - (Int32.ofInt 1)) rfl v_tyM rfl ((z_sn (fun h => absurd h.2 (by decide))).trans z_ss) ?_
        show u_P L xs n d m_X12_monthTold 57 [(1, .int (S 99 3)), (0, .ref 100)] [.int ((S 99 65) - (Int32.ofInt 1)), .ref 135, .ref 100] (z_s (z_s S 99 65 ((S 99 65) - (Int32.ofInt 1))) 99 3 ((S 99 3) + (Int32.ofInt 1))) R _
        refine u_ialdE (v := S 134 (((S 99 65) - (Int32.ofInt 1)).toInt.toNat)) rfl rfl ((z_sn (fun h => absurd h.1 (by decide))).trans (z_sn (fun h => absurd h.1 (by decide)))) (fun b611 b612 => ?_)
        have hD := hD b611 b612
        show u_P L xs n d m_X12_monthTold 58 [(1, .int (S 99 3)), (0, .ref 100)] [.int (S 134 (((S 99 65) - (Int32.ofInt 1)).toInt.toNat)), .ref 100] (z_s (z_s S 99 65 ((S 99 65) - (Int32.ofInt 1))) 99 3 ((S 99 3) + (Int32.ofInt 1))) R _
        refine u_st rfl (fun _ => rfl) ?_
        show u_P L xs n d m_X12_monthTold 59 [(1, .int (S 99 3)), (0, .ref 100)] [.ref 100, .int (S 134 (((S 99 65) - (Int32.ofInt 1)).toInt.toNat)), .ref 100] (z_s (z_s S 99 65 ((S 99 65) - (Int32.ofInt 1))) 99 3 ((S 99 3) + (Int32.ofInt 1))) R _
        refine u_getr rfl v_tyM rfl ?_
        refine u_st rfl (fun _ => rfl) ?_
        show u_P L xs n d m_X12_monthTold 63 [(1, .int (S 99 3)), (0, .ref 100)] [.ref 100, .ref 136, .int (S 134 (((S 99 65) - (Int32.ofInt 1)).toInt.toNat)), .ref 100] (z_s (z_s S 99 65 ((S 99 65) - (Int32.ofInt 1))) 99 3 ((S 99 3) + (Int32.ofInt 1))) R _
        refine u_getE (v := (S 99 65) - (Int32.ofInt 1)) rfl v_tyM rfl ((z_sn (fun h => absurd h.2 (by decide))).trans z_ss) ?_
        show u_P L xs n d m_X12_monthTold 66 [(1, .int (S 99 3)), (0, .ref 100)] [.int ((S 99 65) - (Int32.ofInt 1)), .ref 136, .int (S 134 (((S 99 65) - (Int32.ofInt 1)).toInt.toNat)), .ref 100] (z_s (z_s S 99 65 ((S 99 65) - (Int32.ofInt 1))) 99 3 ((S 99 3) + (Int32.ofInt 1))) R _
        refine u_ialdE (v := S 135 (((S 99 65) - (Int32.ofInt 1)).toInt.toNat)) rfl rfl ((z_sn (fun h => absurd h.1 (by decide))).trans (z_sn (fun h => absurd h.1 (by decide)))) (fun b621 b622 => ?_)
        have hD := hD b621 b622
        show u_P L xs n d m_X12_monthTold 67 [(1, .int (S 99 3)), (0, .ref 100)] [.int (S 135 (((S 99 65) - (Int32.ofInt 1)).toInt.toNat)), .int (S 134 (((S 99 65) - (Int32.ofInt 1)).toInt.toNat)), .ref 100] (z_s (z_s S 99 65 ((S 99 65) - (Int32.ofInt 1))) 99 3 ((S 99 3) + (Int32.ofInt 1))) R _
        refine u_st rfl (fun _ => rfl) ?_
        show u_P L xs n d m_X12_monthTold 68 [(1, .int (S 99 3)), (0, .ref 100)] [.ref 100, .int (S 135 (((S 99 65) - (Int32.ofInt 1)).toInt.toNat)), .int (S 134 (((S 99 65) - (Int32.ofInt 1)).toInt.toNat)), .ref 100] (z_s (z_s S 99 65 ((S 99 65) - (Int32.ofInt 1))) 99 3 ((S 99 3) + (Int32.ofInt 1))) R _
        refine u_getr rfl v_tyM rfl ?_
        refine u_st rfl (fun _ => rfl) ?_
        show u_P L xs n d m_X12_monthTold 72 [(1, .int (S 99 3)), (0, .ref 100)] [.ref 100, .ref 137, .int (S 135 (((S 99 65) - (Int32.ofInt 1)).toInt.toNat)), .int (S 134 (((S 99 65) - (Int32.ofInt 1)).toInt.toNat)), .ref 100] (z_s (z_s S 99 65 ((S 99 65) - (Int32.ofInt 1))) 99 3 ((S 99 3) + (Int32.ofInt 1))) R _
        refine u_getE (v := (S 99 65) - (Int32.ofInt 1)) rfl v_tyM rfl ((z_sn (fun h => absurd h.2 (by decide))).trans z_ss) ?_
        show u_P L xs n d m_X12_monthTold 75 [(1, .int (S 99 3)), (0, .ref 100)] [.int ((S 99 65) - (Int32.ofInt 1)), .ref 137, .int (S 135 (((S 99 65) - (Int32.ofInt 1)).toInt.toNat)), .int (S 134 (((S 99 65) - (Int32.ofInt 1)).toInt.toNat)), .ref 100] (z_s (z_s S 99 65 ((S 99 65) - (Int32.ofInt 1))) 99 3 ((S 99 3) + (Int32.ofInt 1))) R _
        refine u_ialdE (v := S 136 (((S 99 65) - (Int32.ofInt 1)).toInt.toNat)) rfl rfl ((z_sn (fun h => absurd h.1 (by decide))).trans (z_sn (fun h => absurd h.1 (by decide)))) (fun b631 b632 => ?_)
        have hD := hD b631 b632
        show u_P L xs n d m_X12_monthTold 76 [(1, .int (S 99 3)), (0, .ref 100)] [.int (S 136 (((S 99 65) - (Int32.ofInt 1)).toInt.toNat)), .int (S 135 (((S 99 65) - (Int32.ofInt 1)).toInt.toNat)), .int (S 134 (((S 99 65) - (Int32.ofInt 1)).toInt.toNat)), .ref 100] (z_s (z_s S 99 65 ((S 99 65) - (Int32.ofInt 1))) 99 3 ((S 99 3) + (Int32.ofInt 1))) R _
        refine u_cv (rest := []) rfl (by decide) mt_X12_repeats v_tyM rfl rfl rfl (Nat.le_of_ble_eq_true rfl) (Nat.le_of_ble_eq_true rfl) (Nat.le_of_ble_eq_true rfl) (fun d' => c_X12_repeats L xs n d' (S 134 (((S 99 65) - (Int32.ofInt 1)).toInt.toNat)) (S 135 (((S 99 65) - (Int32.ofInt 1)).toInt.toNat)) (S 136 (((S 99 65) - (Int32.ofInt 1)).toInt.toNat)) (z_s (z_s S 99 65 ((S 99 65) - (Int32.ofInt 1))) 99 3 ((S 99 3) + (Int32.ofInt 1))) R) ?_
        rintro _ _ _ ⟨rfl, rfl, rfl⟩
        show u_P L xs n d m_X12_monthTold 79 [(1, .int (S 99 3)), (0, .ref 100)] [] (g_X12_repeats (S 134 (((S 99 65) - (Int32.ofInt 1)).toInt.toNat)) (S 135 (((S 99 65) - (Int32.ofInt 1)).toInt.toNat)) (S 136 (((S 99 65) - (Int32.ofInt 1)).toInt.toNat)) (z_s (z_s S 99 65 ((S 99 65) - (Int32.ofInt 1))) 99 3 ((S 99 3) + (Int32.ofInt 1)))) R _
        exact u_ret rfl rfl ⟨rfl, rfl, hD⟩
noncomputable def s_X12_monthTold_244 (x2 : Int32) (x3 : Int32) (S : v_Sf) : (Int32 × v_Sf) ⊕ (v_Sf) := (if x2 ≤ x3 then (Sum.inr (z_s (z_s (z_s S 99 64 ((S 99 64) + x2)) 99 66 (Int32.ofInt 1)) 99 3 ((S 99 3) + (Int32.ofInt 1)))) else (if ¬ (f_X12_here S) = (Int32.ofInt 46) then (Sum.inl ((x3 + (Int32.ofInt 1)), (z_s S 133 (((S 99 64) + x3).toInt.toNat) ((f_X12_here S) - (Int32.ofInt 65))))) else (Sum.inl ((x3 + (Int32.ofInt 1)), (z_s S 133 (((S 99 64) + x3).toInt.toNat) (Int32.ofInt (-1)))))))
noncomputable def F_X12_monthTold  (S : v_Sf) : v_Sf := (if ¬ (f_X12_here S) = (Int32.ofInt 41) then (if ¬ (f_X12_here (g_X12_timesTold S)) = (Int32.ofInt 40) then (if (f_X12_here (g_X12_timesTold S)) = (Int32.ofInt 46) then (if (((g_X12_timesTold S) 99 64) + (f_X12_timesTold S)) ≤ (Int32.ofInt 48) then (if ¬ (f_X12_isGood (g_X12_timesTold S)) = 0 then z_lim (fun p => s_X12_monthTold_244 (f_X12_timesTold S) p.1 p.2) S ((Int32.ofInt 0), (g_X12_timesTold S)) else g_X12_timesTold S) else (if ¬ (f_X12_isGood (g_X12_wrongs (Int32.ofInt 6) (S 99 3) (g_X12_timesTold S))) = 0 then z_lim (fun p => s_X12_monthTold_244 (f_X12_timesTold S) p.1 p.2) S ((Int32.ofInt 0), (g_X12_wrongs (Int32.ofInt 6) (S 99 3) (g_X12_timesTold S))) else g_X12_wrongs (Int32.ofInt 6) (S 99 3) (g_X12_timesTold S))) else (if ¬ (z_in ((f_X12_here (g_X12_timesTold S))) 65 74) = 0 then (if (((g_X12_timesTold S) 99 64) + (f_X12_timesTold S)) ≤ (Int32.ofInt 48) then (if ¬ (f_X12_isGood (g_X12_timesTold S)) = 0 then z_lim (fun p => s_X12_monthTold_244 (f_X12_timesTold S) p.1 p.2) S ((Int32.ofInt 0), (g_X12_timesTold S)) else g_X12_timesTold S) else (if ¬ (f_X12_isGood (g_X12_wrongs (Int32.ofInt 6) (S 99 3) (g_X12_timesTold S))) = 0 then z_lim (fun p => s_X12_monthTold_244 (f_X12_timesTold S) p.1 p.2) S ((Int32.ofInt 0), (g_X12_wrongs (Int32.ofInt 6) (S 99 3) (g_X12_timesTold S))) else g_X12_wrongs (Int32.ofInt 6) (S 99 3) (g_X12_timesTold S))) else (if ¬ (f_X12_isGood (g_X12_wrongs (Int32.ofInt 1) ((g_X12_timesTold S) 99 3) (g_X12_timesTold S))) = 0 then z_lim (fun p => s_X12_monthTold_244 (f_X12_timesTold S) p.1 p.2) S ((Int32.ofInt 0), (g_X12_wrongs (Int32.ofInt 1) ((g_X12_timesTold S) 99 3) (g_X12_timesTold S))) else g_X12_wrongs (Int32.ofInt 1) ((g_X12_timesTold S) 99 3) (g_X12_timesTold S)))) else (if ¬ ((g_X12_timesTold S) 99 65) = (Int32.ofInt 2) then (if ¬ (f_X12_isGood (g_X12_timesTold S)) = 0 then z_s (z_s (z_s (z_s (z_s (z_s (g_X12_timesTold S) 134 (((g_X12_timesTold S) 99 65).toInt.toNat) ((g_X12_timesTold S) 99 64)) 135 (((g_X12_timesTold S) 99 65).toInt.toNat) (f_X12_timesTold S)) 136 (((g_X12_timesTold S) 99 65).toInt.toNat) (S 99 3)) 99 65 (((g_X12_timesTold S) 99 65) + (Int32.ofInt 1))) 99 66 (Int32.ofInt 0)) 99 3 (((g_X12_timesTold S) 99 3) + (Int32.ofInt 1)) else g_X12_timesTold S) else (if ¬ (f_X12_isGood (g_X12_wrongs (Int32.ofInt 5) ((g_X12_timesTold S) 99 3) (g_X12_timesTold S))) = 0 then z_s (z_s (z_s (z_s (z_s (z_s (g_X12_wrongs (Int32.ofInt 5) ((g_X12_timesTold S) 99 3) (g_X12_timesTold S)) 134 (((g_X12_wrongs (Int32.ofInt 5) ((g_X12_timesTold S) 99 3) (g_X12_timesTold S)) 99 65).toInt.toNat) ((g_X12_wrongs (Int32.ofInt 5) ((g_X12_timesTold S) 99 3) (g_X12_timesTold S)) 99 64)) 135 (((g_X12_wrongs (Int32.ofInt 5) ((g_X12_timesTold S) 99 3) (g_X12_timesTold S)) 99 65).toInt.toNat) (f_X12_timesTold S)) 136 (((g_X12_wrongs (Int32.ofInt 5) ((g_X12_timesTold S) 99 3) (g_X12_timesTold S)) 99 65).toInt.toNat) (S 99 3)) 99 65 (((g_X12_wrongs (Int32.ofInt 5) ((g_X12_timesTold S) 99 3) (g_X12_timesTold S)) 99 65) + (Int32.ofInt 1))) 99 66 (Int32.ofInt 0)) 99 3 (((g_X12_wrongs (Int32.ofInt 5) ((g_X12_timesTold S) 99 3) (g_X12_timesTold S)) 99 3) + (Int32.ofInt 1)) else g_X12_wrongs (Int32.ofInt 5) ((g_X12_timesTold S) 99 3) (g_X12_timesTold S)))) else (if (S 99 65) ≤ 0 then (if ¬ (f_X12_here (g_X12_timesTold S)) = (Int32.ofInt 40) then (if (f_X12_here (g_X12_timesTold S)) = (Int32.ofInt 46) then (if (((g_X12_timesTold S) 99 64) + (f_X12_timesTold S)) ≤ (Int32.ofInt 48) then (if ¬ (f_X12_isGood (g_X12_timesTold S)) = 0 then z_lim (fun p => s_X12_monthTold_244 (f_X12_timesTold S) p.1 p.2) S ((Int32.ofInt 0), (g_X12_timesTold S)) else g_X12_timesTold S) else (if ¬ (f_X12_isGood (g_X12_wrongs (Int32.ofInt 6) (S 99 3) (g_X12_timesTold S))) = 0 then z_lim (fun p => s_X12_monthTold_244 (f_X12_timesTold S) p.1 p.2) S ((Int32.ofInt 0), (g_X12_wrongs (Int32.ofInt 6) (S 99 3) (g_X12_timesTold S))) else g_X12_wrongs (Int32.ofInt 6) (S 99 3) (g_X12_timesTold S))) else (if ¬ (z_in ((f_X12_here (g_X12_timesTold S))) 65 74) = 0 then (if (((g_X12_timesTold S) 99 64) + (f_X12_timesTold S)) ≤ (Int32.ofInt 48) then (if ¬ (f_X12_isGood (g_X12_timesTold S)) = 0 then z_lim (fun p => s_X12_monthTold_244 (f_X12_timesTold S) p.1 p.2) S ((Int32.ofInt 0), (g_X12_timesTold S)) else g_X12_timesTold S) else (if ¬ (f_X12_isGood (g_X12_wrongs (Int32.ofInt 6) (S 99 3) (g_X12_timesTold S))) = 0 then z_lim (fun p => s_X12_monthTold_244 (f_X12_timesTold S) p.1 p.2) S ((Int32.ofInt 0), (g_X12_wrongs (Int32.ofInt 6) (S 99 3) (g_X12_timesTold S))) else g_X12_wrongs (Int32.ofInt 6) (S 99 3) (g_X12_timesTold S))) else (if ¬ (f_X12_isGood (g_X12_wrongs (Int32.ofInt 1) ((g_X12_timesTold S) 99 3) (g_X12_timesTold S))) = 0 then z_lim (fun p => s_X12_monthTold_244 (f_X12_timesTold S) p.1 p.2) S ((Int32.ofInt 0), (g_X12_wrongs (Int32.ofInt 1) ((g_X12_timesTold S) 99 3) (g_X12_timesTold S))) else g_X12_wrongs (Int32.ofInt 1) ((g_X12_timesTold S) 99 3) (g_X12_timesTold S)))) else (if ¬ ((g_X12_timesTold S) 99 65) = (Int32.ofInt 2) then (if ¬ (f_X12_isGood (g_X12_timesTold S)) = 0 then z_s (z_s (z_s (z_s (z_s (z_s (g_X12_timesTold S) 134 (((g_X12_timesTold S) 99 65).toInt.toNat) ((g_X12_timesTold S) 99 64)) 135 (((g_X12_timesTold S) 99 65).toInt.toNat) (f_X12_timesTold S)) 136 (((g_X12_timesTold S) 99 65).toInt.toNat) (S 99 3)) 99 65 (((g_X12_timesTold S) 99 65) + (Int32.ofInt 1))) 99 66 (Int32.ofInt 0)) 99 3 (((g_X12_timesTold S) 99 3) + (Int32.ofInt 1)) else g_X12_timesTold S) else (if ¬ (f_X12_isGood (g_X12_wrongs (Int32.ofInt 5) ((g_X12_timesTold S) 99 3) (g_X12_timesTold S))) = 0 then z_s (z_s (z_s (z_s (z_s (z_s (g_X12_wrongs (Int32.ofInt 5) ((g_X12_timesTold S) 99 3) (g_X12_timesTold S)) 134 (((g_X12_wrongs (Int32.ofInt 5) ((g_X12_timesTold S) 99 3) (g_X12_timesTold S)) 99 65).toInt.toNat) ((g_X12_wrongs (Int32.ofInt 5) ((g_X12_timesTold S) 99 3) (g_X12_timesTold S)) 99 64)) 135 (((g_X12_wrongs (Int32.ofInt 5) ((g_X12_timesTold S) 99 3) (g_X12_timesTold S)) 99 65).toInt.toNat) (f_X12_timesTold S)) 136 (((g_X12_wrongs (Int32.ofInt 5) ((g_X12_timesTold S) 99 3) (g_X12_timesTold S)) 99 65).toInt.toNat) (S 99 3)) 99 65 (((g_X12_wrongs (Int32.ofInt 5) ((g_X12_timesTold S) 99 3) (g_X12_timesTold S)) 99 65) + (Int32.ofInt 1))) 99 66 (Int32.ofInt 0)) 99 3 (((g_X12_wrongs (Int32.ofInt 5) ((g_X12_timesTold S) 99 3) (g_X12_timesTold S)) 99 3) + (Int32.ofInt 1)) else g_X12_wrongs (Int32.ofInt 5) ((g_X12_timesTold S) 99 3) (g_X12_timesTold S)))) else (if (S 99 66) = 0 then (if ¬ (f_X12_here (g_X12_timesTold S)) = (Int32.ofInt 40) then (if (f_X12_here (g_X12_timesTold S)) = (Int32.ofInt 46) then (if (((g_X12_timesTold S) 99 64) + (f_X12_timesTold S)) ≤ (Int32.ofInt 48) then (if ¬ (f_X12_isGood (g_X12_timesTold S)) = 0 then z_lim (fun p => s_X12_monthTold_244 (f_X12_timesTold S) p.1 p.2) S ((Int32.ofInt 0), (g_X12_timesTold S)) else g_X12_timesTold S) else (if ¬ (f_X12_isGood (g_X12_wrongs (Int32.ofInt 6) (S 99 3) (g_X12_timesTold S))) = 0 then z_lim (fun p => s_X12_monthTold_244 (f_X12_timesTold S) p.1 p.2) S ((Int32.ofInt 0), (g_X12_wrongs (Int32.ofInt 6) (S 99 3) (g_X12_timesTold S))) else g_X12_wrongs (Int32.ofInt 6) (S 99 3) (g_X12_timesTold S))) else (if ¬ (z_in ((f_X12_here (g_X12_timesTold S))) 65 74) = 0 then (if (((g_X12_timesTold S) 99 64) + (f_X12_timesTold S)) ≤ (Int32.ofInt 48) then (if ¬ (f_X12_isGood (g_X12_timesTold S)) = 0 then z_lim (fun p => s_X12_monthTold_244 (f_X12_timesTold S) p.1 p.2) S ((Int32.ofInt 0), (g_X12_timesTold S)) else g_X12_timesTold S) else (if ¬ (f_X12_isGood (g_X12_wrongs (Int32.ofInt 6) (S 99 3) (g_X12_timesTold S))) = 0 then z_lim (fun p => s_X12_monthTold_244 (f_X12_timesTold S) p.1 p.2) S ((Int32.ofInt 0), (g_X12_wrongs (Int32.ofInt 6) (S 99 3) (g_X12_timesTold S))) else g_X12_wrongs (Int32.ofInt 6) (S 99 3) (g_X12_timesTold S))) else (if ¬ (f_X12_isGood (g_X12_wrongs (Int32.ofInt 1) ((g_X12_timesTold S) 99 3) (g_X12_timesTold S))) = 0 then z_lim (fun p => s_X12_monthTold_244 (f_X12_timesTold S) p.1 p.2) S ((Int32.ofInt 0), (g_X12_wrongs (Int32.ofInt 1) ((g_X12_timesTold S) 99 3) (g_X12_timesTold S))) else g_X12_wrongs (Int32.ofInt 1) ((g_X12_timesTold S) 99 3) (g_X12_timesTold S)))) else (if ¬ ((g_X12_timesTold S) 99 65) = (Int32.ofInt 2) then (if ¬ (f_X12_isGood (g_X12_timesTold S)) = 0 then z_s (z_s (z_s (z_s (z_s (z_s (g_X12_timesTold S) 134 (((g_X12_timesTold S) 99 65).toInt.toNat) ((g_X12_timesTold S) 99 64)) 135 (((g_X12_timesTold S) 99 65).toInt.toNat) (f_X12_timesTold S)) 136 (((g_X12_timesTold S) 99 65).toInt.toNat) (S 99 3)) 99 65 (((g_X12_timesTold S) 99 65) + (Int32.ofInt 1))) 99 66 (Int32.ofInt 0)) 99 3 (((g_X12_timesTold S) 99 3) + (Int32.ofInt 1)) else g_X12_timesTold S) else (if ¬ (f_X12_isGood (g_X12_wrongs (Int32.ofInt 5) ((g_X12_timesTold S) 99 3) (g_X12_timesTold S))) = 0 then z_s (z_s (z_s (z_s (z_s (z_s (g_X12_wrongs (Int32.ofInt 5) ((g_X12_timesTold S) 99 3) (g_X12_timesTold S)) 134 (((g_X12_wrongs (Int32.ofInt 5) ((g_X12_timesTold S) 99 3) (g_X12_timesTold S)) 99 65).toInt.toNat) ((g_X12_wrongs (Int32.ofInt 5) ((g_X12_timesTold S) 99 3) (g_X12_timesTold S)) 99 64)) 135 (((g_X12_wrongs (Int32.ofInt 5) ((g_X12_timesTold S) 99 3) (g_X12_timesTold S)) 99 65).toInt.toNat) (f_X12_timesTold S)) 136 (((g_X12_wrongs (Int32.ofInt 5) ((g_X12_timesTold S) 99 3) (g_X12_timesTold S)) 99 65).toInt.toNat) (S 99 3)) 99 65 (((g_X12_wrongs (Int32.ofInt 5) ((g_X12_timesTold S) 99 3) (g_X12_timesTold S)) 99 65) + (Int32.ofInt 1))) 99 66 (Int32.ofInt 0)) 99 3 (((g_X12_wrongs (Int32.ofInt 5) ((g_X12_timesTold S) 99 3) (g_X12_timesTold S)) 99 3) + (Int32.ofInt 1)) else g_X12_wrongs (Int32.ofInt 5) ((g_X12_timesTold S) 99 3) (g_X12_timesTold S)))) else g_X12_repeats (S 134 (((S 99 65) - (Int32.ofInt 1)).toInt.toNat)) (S 135 (((S 99 65) - (Int32.ofInt 1)).toInt.toNat)) (S 136 (((S 99 65) - (Int32.ofInt 1)).toInt.toNat)) (z_s (z_s S 99 65 ((S 99 65) - (Int32.ofInt 1))) 99 3 ((S 99 3) + (Int32.ofInt 1))))))
noncomputable def g_X12_monthTold  (S : v_Sf) : v_Sf := F_X12_monthTold  S
theorem c_X12_monthTold (L : Nat) (xs : Nat → Int32) (n d : Nat)  (S : v_Sf) (R : v_Rf) : u_P L xs n d m_X12_monthTold 0 (lv_args 0 [.ref 100]) [] S R (z_V R (fun S1 => g_X12_monthTold  S = S1)) := by
  refine w_X12_monthTold L xs  (fun y2 y3 T => f_X12_timesTold S = y2 ∧ (∀ N out, z_itr (fun p => s_X12_monthTold_244 (f_X12_timesTold S) p.1 p.2) N (y3, T) = some out → F_X12_monthTold  S = out)) (fun S1 => g_X12_monthTold  S = S1) ?_ n d S ?_
  · rintro _ x3 S1 ⟨rfl, e⟩
    unfold D_X12_monthTold_244
    refine ⟨fun q1 => ?_, fun q1 => ?_⟩
    · have e := (e 1 _ (z_itr_r (by show s_X12_monthTold_244 (f_X12_timesTold S) x3 S1 = _; rw [s_X12_monthTold_244, if_pos q1]))).symm
      exact e.symm
    · refine ⟨fun q2 => ?_, fun q2 => ?_⟩
      · intro _ _
        exact ⟨rfl, fun N out h => e (N + 1) out ((z_itr_l (by show s_X12_monthTold_244 (f_X12_timesTold S) x3 S1 = _; rw [s_X12_monthTold_244, if_neg q1, if_pos q2])).trans h)⟩
      · intro _ _
        exact ⟨rfl, fun N out h => e (N + 1) out ((z_itr_l (by show s_X12_monthTold_244 (f_X12_timesTold S) x3 S1 = _; rw [s_X12_monthTold_244, if_neg q1, if_neg q2])).trans h)⟩
  · unfold D_X12_monthTold
    refine ⟨fun q3 => ?_, fun q3 => ?_⟩
    · refine ⟨fun q4 => ?_, fun q4 => ?_⟩
      · refine ⟨fun q5 => ?_, fun q5 => ?_⟩
        · refine ⟨fun q6 => ?_, fun q6 => ?_⟩
          · refine ⟨fun q7 => ?_, fun q7 => ?_⟩
            · have e : z_lim (fun p => s_X12_monthTold_244 (f_X12_timesTold S) p.1 p.2) S ((Int32.ofInt 0), (g_X12_timesTold S)) = F_X12_monthTold  S := by rw [F_X12_monthTold, if_pos q3, if_pos q4, if_pos q5, if_pos q6, if_pos q7]
              exact ⟨rfl, fun N out h => e.symm.trans (z_lim_eq h)⟩
            · have e : g_X12_timesTold S = F_X12_monthTold  S := by rw [F_X12_monthTold, if_pos q3, if_pos q4, if_pos q5, if_pos q6, if_neg q7]
              exact e.symm
          · refine ⟨fun q8 => ?_, fun q8 => ?_⟩
            · have e : z_lim (fun p => s_X12_monthTold_244 (f_X12_timesTold S) p.1 p.2) S ((Int32.ofInt 0), (g_X12_wrongs (Int32.ofInt 6) (S 99 3) (g_X12_timesTold S))) = F_X12_monthTold  S := by rw [F_X12_monthTold, if_pos q3, if_pos q4, if_pos q5, if_neg q6, if_pos q8]
              exact ⟨rfl, fun N out h => e.symm.trans (z_lim_eq h)⟩
            · have e : g_X12_wrongs (Int32.ofInt 6) (S 99 3) (g_X12_timesTold S) = F_X12_monthTold  S := by rw [F_X12_monthTold, if_pos q3, if_pos q4, if_pos q5, if_neg q6, if_neg q8]
              exact e.symm
        · refine ⟨fun q9 => ?_, fun q9 => ?_⟩
          · refine ⟨fun q10 => ?_, fun q10 => ?_⟩
            · refine ⟨fun q11 => ?_, fun q11 => ?_⟩
              · have e : z_lim (fun p => s_X12_monthTold_244 (f_X12_timesTold S) p.1 p.2) S ((Int32.ofInt 0), (g_X12_timesTold S)) = F_X12_monthTold  S := by rw [F_X12_monthTold, if_pos q3, if_pos q4, if_neg q5, if_pos q9, if_pos q10, if_pos q11]
                exact ⟨rfl, fun N out h => e.symm.trans (z_lim_eq h)⟩
              · have e : g_X12_timesTold S = F_X12_monthTold  S := by rw [F_X12_monthTold, if_pos q3, if_pos q4, if_neg q5, if_pos q9, if_pos q10, if_neg q11]
                exact e.symm
            · refine ⟨fun q12 => ?_, fun q12 => ?_⟩
              · have e : z_lim (fun p => s_X12_monthTold_244 (f_X12_timesTold S) p.1 p.2) S ((Int32.ofInt 0), (g_X12_wrongs (Int32.ofInt 6) (S 99 3) (g_X12_timesTold S))) = F_X12_monthTold  S := by rw [F_X12_monthTold, if_pos q3, if_pos q4, if_neg q5, if_pos q9, if_neg q10, if_pos q12]
                exact ⟨rfl, fun N out h => e.symm.trans (z_lim_eq h)⟩
              · have e : g_X12_wrongs (Int32.ofInt 6) (S 99 3) (g_X12_timesTold S) = F_X12_monthTold  S := by rw [F_X12_monthTold, if_pos q3, if_pos q4, if_neg q5, if_pos q9, if_neg q10, if_neg q12]
                exact e.symm
          · refine ⟨fun q13 => ?_, fun q13 => ?_⟩
            · have e : z_lim (fun p => s_X12_monthTold_244 (f_X12_timesTold S) p.1 p.2) S ((Int32.ofInt 0), (g_X12_wrongs (Int32.ofInt 1) ((g_X12_timesTold S) 99 3) (g_X12_timesTold S))) = F_X12_monthTold  S := by rw [F_X12_monthTold, if_pos q3, if_pos q4, if_neg q5, if_neg q9, if_pos q13]
              exact ⟨rfl, fun N out h => e.symm.trans (z_lim_eq h)⟩
            · have e : g_X12_wrongs (Int32.ofInt 1) ((g_X12_timesTold S) 99 3) (g_X12_timesTold S) = F_X12_monthTold  S := by rw [F_X12_monthTold, if_pos q3, if_pos q4, if_neg q5, if_neg q9, if_neg q13]
              exact e.symm
      · refine ⟨fun q14 => ?_, fun q14 => ?_⟩
        · refine ⟨fun q15 => ?_, fun q15 => ?_⟩
          · intro _ _
            intro _ _
            intro _ _
            have e : z_s (z_s (z_s (z_s (z_s (z_s (g_X12_timesTold S) 134 (((g_X12_timesTold S) 99 65).toInt.toNat) ((g_X12_timesTold S) 99 64)) 135 (((g_X12_timesTold S) 99 65).toInt.toNat) (f_X12_timesTold S)) 136 (((g_X12_timesTold S) 99 65).toInt.toNat) (S 99 3)) 99 65 (((g_X12_timesTold S) 99 65) + (Int32.ofInt 1))) 99 66 (Int32.ofInt 0)) 99 3 (((g_X12_timesTold S) 99 3) + (Int32.ofInt 1)) = F_X12_monthTold  S := by rw [F_X12_monthTold, if_pos q3, if_neg q4, if_pos q14, if_pos q15]
            exact e.symm
          · have e : g_X12_timesTold S = F_X12_monthTold  S := by rw [F_X12_monthTold, if_pos q3, if_neg q4, if_pos q14, if_neg q15]
            exact e.symm
        · refine ⟨fun q16 => ?_, fun q16 => ?_⟩
          · intro _ _
            intro _ _
            intro _ _
            have e : z_s (z_s (z_s (z_s (z_s (z_s (g_X12_wrongs (Int32.ofInt 5) ((g_X12_timesTold S) 99 3) (g_X12_timesTold S)) 134 (((g_X12_wrongs (Int32.ofInt 5) ((g_X12_timesTold S) 99 3) (g_X12_timesTold S)) 99 65).toInt.toNat) ((g_X12_wrongs (Int32.ofInt 5) ((g_X12_timesTold S) 99 3) (g_X12_timesTold S)) 99 64)) 135 (((g_X12_wrongs (Int32.ofInt 5) ((g_X12_timesTold S) 99 3) (g_X12_timesTold S)) 99 65).toInt.toNat) (f_X12_timesTold S)) 136 (((g_X12_wrongs (Int32.ofInt 5) ((g_X12_timesTold S) 99 3) (g_X12_timesTold S)) 99 65).toInt.toNat) (S 99 3)) 99 65 (((g_X12_wrongs (Int32.ofInt 5) ((g_X12_timesTold S) 99 3) (g_X12_timesTold S)) 99 65) + (Int32.ofInt 1))) 99 66 (Int32.ofInt 0)) 99 3 (((g_X12_wrongs (Int32.ofInt 5) ((g_X12_timesTold S) 99 3) (g_X12_timesTold S)) 99 3) + (Int32.ofInt 1)) = F_X12_monthTold  S := by rw [F_X12_monthTold, if_pos q3, if_neg q4, if_neg q14, if_pos q16]
            exact e.symm
          · have e : g_X12_wrongs (Int32.ofInt 5) ((g_X12_timesTold S) 99 3) (g_X12_timesTold S) = F_X12_monthTold  S := by rw [F_X12_monthTold, if_pos q3, if_neg q4, if_neg q14, if_neg q16]
            exact e.symm
    · refine ⟨fun q17 => ?_, fun q17 => ?_⟩
      · refine ⟨fun q18 => ?_, fun q18 => ?_⟩
        · refine ⟨fun q19 => ?_, fun q19 => ?_⟩
          · refine ⟨fun q20 => ?_, fun q20 => ?_⟩
            · refine ⟨fun q21 => ?_, fun q21 => ?_⟩
              · have e : z_lim (fun p => s_X12_monthTold_244 (f_X12_timesTold S) p.1 p.2) S ((Int32.ofInt 0), (g_X12_timesTold S)) = F_X12_monthTold  S := by rw [F_X12_monthTold, if_neg q3, if_pos q17, if_pos q18, if_pos q19, if_pos q20, if_pos q21]
                exact ⟨rfl, fun N out h => e.symm.trans (z_lim_eq h)⟩
              · have e : g_X12_timesTold S = F_X12_monthTold  S := by rw [F_X12_monthTold, if_neg q3, if_pos q17, if_pos q18, if_pos q19, if_pos q20, if_neg q21]
                exact e.symm
            · refine ⟨fun q22 => ?_, fun q22 => ?_⟩
              · have e : z_lim (fun p => s_X12_monthTold_244 (f_X12_timesTold S) p.1 p.2) S ((Int32.ofInt 0), (g_X12_wrongs (Int32.ofInt 6) (S 99 3) (g_X12_timesTold S))) = F_X12_monthTold  S := by rw [F_X12_monthTold, if_neg q3, if_pos q17, if_pos q18, if_pos q19, if_neg q20, if_pos q22]
                exact ⟨rfl, fun N out h => e.symm.trans (z_lim_eq h)⟩
              · have e : g_X12_wrongs (Int32.ofInt 6) (S 99 3) (g_X12_timesTold S) = F_X12_monthTold  S := by rw [F_X12_monthTold, if_neg q3, if_pos q17, if_pos q18, if_pos q19, if_neg q20, if_neg q22]
                exact e.symm
          · refine ⟨fun q23 => ?_, fun q23 => ?_⟩
            · refine ⟨fun q24 => ?_, fun q24 => ?_⟩
              · refine ⟨fun q25 => ?_, fun q25 => ?_⟩
                · have e : z_lim (fun p => s_X12_monthTold_244 (f_X12_timesTold S) p.1 p.2) S ((Int32.ofInt 0), (g_X12_timesTold S)) = F_X12_monthTold  S := by rw [F_X12_monthTold, if_neg q3, if_pos q17, if_pos q18, if_neg q19, if_pos q23, if_pos q24, if_pos q25]
                  exact ⟨rfl, fun N out h => e.symm.trans (z_lim_eq h)⟩
                · have e : g_X12_timesTold S = F_X12_monthTold  S := by rw [F_X12_monthTold, if_neg q3, if_pos q17, if_pos q18, if_neg q19, if_pos q23, if_pos q24, if_neg q25]
                  exact e.symm
              · refine ⟨fun q26 => ?_, fun q26 => ?_⟩
                · have e : z_lim (fun p => s_X12_monthTold_244 (f_X12_timesTold S) p.1 p.2) S ((Int32.ofInt 0), (g_X12_wrongs (Int32.ofInt 6) (S 99 3) (g_X12_timesTold S))) = F_X12_monthTold  S := by rw [F_X12_monthTold, if_neg q3, if_pos q17, if_pos q18, if_neg q19, if_pos q23, if_neg q24, if_pos q26]
                  exact ⟨rfl, fun N out h => e.symm.trans (z_lim_eq h)⟩
                · have e : g_X12_wrongs (Int32.ofInt 6) (S 99 3) (g_X12_timesTold S) = F_X12_monthTold  S := by rw [F_X12_monthTold, if_neg q3, if_pos q17, if_pos q18, if_neg q19, if_pos q23, if_neg q24, if_neg q26]
                  exact e.symm
            · refine ⟨fun q27 => ?_, fun q27 => ?_⟩
              · have e : z_lim (fun p => s_X12_monthTold_244 (f_X12_timesTold S) p.1 p.2) S ((Int32.ofInt 0), (g_X12_wrongs (Int32.ofInt 1) ((g_X12_timesTold S) 99 3) (g_X12_timesTold S))) = F_X12_monthTold  S := by rw [F_X12_monthTold, if_neg q3, if_pos q17, if_pos q18, if_neg q19, if_neg q23, if_pos q27]
                exact ⟨rfl, fun N out h => e.symm.trans (z_lim_eq h)⟩
              · have e : g_X12_wrongs (Int32.ofInt 1) ((g_X12_timesTold S) 99 3) (g_X12_timesTold S) = F_X12_monthTold  S := by rw [F_X12_monthTold, if_neg q3, if_pos q17, if_pos q18, if_neg q19, if_neg q23, if_neg q27]
                exact e.symm
        · refine ⟨fun q28 => ?_, fun q28 => ?_⟩
          · refine ⟨fun q29 => ?_, fun q29 => ?_⟩
            · intro _ _
              intro _ _
              intro _ _
              have e : z_s (z_s (z_s (z_s (z_s (z_s (g_X12_timesTold S) 134 (((g_X12_timesTold S) 99 65).toInt.toNat) ((g_X12_timesTold S) 99 64)) 135 (((g_X12_timesTold S) 99 65).toInt.toNat) (f_X12_timesTold S)) 136 (((g_X12_timesTold S) 99 65).toInt.toNat) (S 99 3)) 99 65 (((g_X12_timesTold S) 99 65) + (Int32.ofInt 1))) 99 66 (Int32.ofInt 0)) 99 3 (((g_X12_timesTold S) 99 3) + (Int32.ofInt 1)) = F_X12_monthTold  S := by rw [F_X12_monthTold, if_neg q3, if_pos q17, if_neg q18, if_pos q28, if_pos q29]
              exact e.symm
            · have e : g_X12_timesTold S = F_X12_monthTold  S := by rw [F_X12_monthTold, if_neg q3, if_pos q17, if_neg q18, if_pos q28, if_neg q29]
              exact e.symm
          · refine ⟨fun q30 => ?_, fun q30 => ?_⟩
            · intro _ _
              intro _ _
              intro _ _
              have e : z_s (z_s (z_s (z_s (z_s (z_s (g_X12_wrongs (Int32.ofInt 5) ((g_X12_timesTold S) 99 3) (g_X12_timesTold S)) 134 (((g_X12_wrongs (Int32.ofInt 5) ((g_X12_timesTold S) 99 3) (g_X12_timesTold S)) 99 65).toInt.toNat) ((g_X12_wrongs (Int32.ofInt 5) ((g_X12_timesTold S) 99 3) (g_X12_timesTold S)) 99 64)) 135 (((g_X12_wrongs (Int32.ofInt 5) ((g_X12_timesTold S) 99 3) (g_X12_timesTold S)) 99 65).toInt.toNat) (f_X12_timesTold S)) 136 (((g_X12_wrongs (Int32.ofInt 5) ((g_X12_timesTold S) 99 3) (g_X12_timesTold S)) 99 65).toInt.toNat) (S 99 3)) 99 65 (((g_X12_wrongs (Int32.ofInt 5) ((g_X12_timesTold S) 99 3) (g_X12_timesTold S)) 99 65) + (Int32.ofInt 1))) 99 66 (Int32.ofInt 0)) 99 3 (((g_X12_wrongs (Int32.ofInt 5) ((g_X12_timesTold S) 99 3) (g_X12_timesTold S)) 99 3) + (Int32.ofInt 1)) = F_X12_monthTold  S := by rw [F_X12_monthTold, if_neg q3, if_pos q17, if_neg q18, if_neg q28, if_pos q30]
              exact e.symm
            · have e : g_X12_wrongs (Int32.ofInt 5) ((g_X12_timesTold S) 99 3) (g_X12_timesTold S) = F_X12_monthTold  S := by rw [F_X12_monthTold, if_neg q3, if_pos q17, if_neg q18, if_neg q28, if_neg q30]
              exact e.symm
      · refine ⟨fun q31 => ?_, fun q31 => ?_⟩
        · refine ⟨fun q32 => ?_, fun q32 => ?_⟩
          · refine ⟨fun q33 => ?_, fun q33 => ?_⟩
            · refine ⟨fun q34 => ?_, fun q34 => ?_⟩
              · refine ⟨fun q35 => ?_, fun q35 => ?_⟩
                · have e : z_lim (fun p => s_X12_monthTold_244 (f_X12_timesTold S) p.1 p.2) S ((Int32.ofInt 0), (g_X12_timesTold S)) = F_X12_monthTold  S := by rw [F_X12_monthTold, if_neg q3, if_neg q17, if_pos q31, if_pos q32, if_pos q33, if_pos q34, if_pos q35]
                  exact ⟨rfl, fun N out h => e.symm.trans (z_lim_eq h)⟩
                · have e : g_X12_timesTold S = F_X12_monthTold  S := by rw [F_X12_monthTold, if_neg q3, if_neg q17, if_pos q31, if_pos q32, if_pos q33, if_pos q34, if_neg q35]
                  exact e.symm
              · refine ⟨fun q36 => ?_, fun q36 => ?_⟩
                · have e : z_lim (fun p => s_X12_monthTold_244 (f_X12_timesTold S) p.1 p.2) S ((Int32.ofInt 0), (g_X12_wrongs (Int32.ofInt 6) (S 99 3) (g_X12_timesTold S))) = F_X12_monthTold  S := by rw [F_X12_monthTold, if_neg q3, if_neg q17, if_pos q31, if_pos q32, if_pos q33, if_neg q34, if_pos q36]
                  exact ⟨rfl, fun N out h => e.symm.trans (z_lim_eq h)⟩
                · have e : g_X12_wrongs (Int32.ofInt 6) (S 99 3) (g_X12_timesTold S) = F_X12_monthTold  S := by rw [F_X12_monthTold, if_neg q3, if_neg q17, if_pos q31, if_pos q32, if_pos q33, if_neg q34, if_neg q36]
                  exact e.symm
            · refine ⟨fun q37 => ?_, fun q37 => ?_⟩
              · refine ⟨fun q38 => ?_, fun q38 => ?_⟩
                · refine ⟨fun q39 => ?_, fun q39 => ?_⟩
                  · have e : z_lim (fun p => s_X12_monthTold_244 (f_X12_timesTold S) p.1 p.2) S ((Int32.ofInt 0), (g_X12_timesTold S)) = F_X12_monthTold  S := by rw [F_X12_monthTold, if_neg q3, if_neg q17, if_pos q31, if_pos q32, if_neg q33, if_pos q37, if_pos q38, if_pos q39]
                    exact ⟨rfl, fun N out h => e.symm.trans (z_lim_eq h)⟩
                  · have e : g_X12_timesTold S = F_X12_monthTold  S := by rw [F_X12_monthTold, if_neg q3, if_neg q17, if_pos q31, if_pos q32, if_neg q33, if_pos q37, if_pos q38, if_neg q39]
                    exact e.symm
                · refine ⟨fun q40 => ?_, fun q40 => ?_⟩
                  · have e : z_lim (fun p => s_X12_monthTold_244 (f_X12_timesTold S) p.1 p.2) S ((Int32.ofInt 0), (g_X12_wrongs (Int32.ofInt 6) (S 99 3) (g_X12_timesTold S))) = F_X12_monthTold  S := by rw [F_X12_monthTold, if_neg q3, if_neg q17, if_pos q31, if_pos q32, if_neg q33, if_pos q37, if_neg q38, if_pos q40]
                    exact ⟨rfl, fun N out h => e.symm.trans (z_lim_eq h)⟩
                  · have e : g_X12_wrongs (Int32.ofInt 6) (S 99 3) (g_X12_timesTold S) = F_X12_monthTold  S := by rw [F_X12_monthTold, if_neg q3, if_neg q17, if_pos q31, if_pos q32, if_neg q33, if_pos q37, if_neg q38, if_neg q40]
                    exact e.symm
              · refine ⟨fun q41 => ?_, fun q41 => ?_⟩
                · have e : z_lim (fun p => s_X12_monthTold_244 (f_X12_timesTold S) p.1 p.2) S ((Int32.ofInt 0), (g_X12_wrongs (Int32.ofInt 1) ((g_X12_timesTold S) 99 3) (g_X12_timesTold S))) = F_X12_monthTold  S := by rw [F_X12_monthTold, if_neg q3, if_neg q17, if_pos q31, if_pos q32, if_neg q33, if_neg q37, if_pos q41]
                  exact ⟨rfl, fun N out h => e.symm.trans (z_lim_eq h)⟩
                · have e : g_X12_wrongs (Int32.ofInt 1) ((g_X12_timesTold S) 99 3) (g_X12_timesTold S) = F_X12_monthTold  S := by rw [F_X12_monthTold, if_neg q3, if_neg q17, if_pos q31, if_pos q32, if_neg q33, if_neg q37, if_neg q41]
                  exact e.symm
          · refine ⟨fun q42 => ?_, fun q42 => ?_⟩
            · refine ⟨fun q43 => ?_, fun q43 => ?_⟩
              · intro _ _
                intro _ _
                intro _ _
                have e : z_s (z_s (z_s (z_s (z_s (z_s (g_X12_timesTold S) 134 (((g_X12_timesTold S) 99 65).toInt.toNat) ((g_X12_timesTold S) 99 64)) 135 (((g_X12_timesTold S) 99 65).toInt.toNat) (f_X12_timesTold S)) 136 (((g_X12_timesTold S) 99 65).toInt.toNat) (S 99 3)) 99 65 (((g_X12_timesTold S) 99 65) + (Int32.ofInt 1))) 99 66 (Int32.ofInt 0)) 99 3 (((g_X12_timesTold S) 99 3) + (Int32.ofInt 1)) = F_X12_monthTold  S := by rw [F_X12_monthTold, if_neg q3, if_neg q17, if_pos q31, if_neg q32, if_pos q42, if_pos q43]
                exact e.symm
              · have e : g_X12_timesTold S = F_X12_monthTold  S := by rw [F_X12_monthTold, if_neg q3, if_neg q17, if_pos q31, if_neg q32, if_pos q42, if_neg q43]
                exact e.symm
            · refine ⟨fun q44 => ?_, fun q44 => ?_⟩
              · intro _ _
                intro _ _
                intro _ _
                have e : z_s (z_s (z_s (z_s (z_s (z_s (g_X12_wrongs (Int32.ofInt 5) ((g_X12_timesTold S) 99 3) (g_X12_timesTold S)) 134 (((g_X12_wrongs (Int32.ofInt 5) ((g_X12_timesTold S) 99 3) (g_X12_timesTold S)) 99 65).toInt.toNat) ((g_X12_wrongs (Int32.ofInt 5) ((g_X12_timesTold S) 99 3) (g_X12_timesTold S)) 99 64)) 135 (((g_X12_wrongs (Int32.ofInt 5) ((g_X12_timesTold S) 99 3) (g_X12_timesTold S)) 99 65).toInt.toNat) (f_X12_timesTold S)) 136 (((g_X12_wrongs (Int32.ofInt 5) ((g_X12_timesTold S) 99 3) (g_X12_timesTold S)) 99 65).toInt.toNat) (S 99 3)) 99 65 (((g_X12_wrongs (Int32.ofInt 5) ((g_X12_timesTold S) 99 3) (g_X12_timesTold S)) 99 65) + (Int32.ofInt 1))) 99 66 (Int32.ofInt 0)) 99 3 (((g_X12_wrongs (Int32.ofInt 5) ((g_X12_timesTold S) 99 3) (g_X12_timesTold S)) 99 3) + (Int32.ofInt 1)) = F_X12_monthTold  S := by rw [F_X12_monthTold, if_neg q3, if_neg q17, if_pos q31, if_neg q32, if_neg q42, if_pos q44]
                exact e.symm
              · have e : g_X12_wrongs (Int32.ofInt 5) ((g_X12_timesTold S) 99 3) (g_X12_timesTold S) = F_X12_monthTold  S := by rw [F_X12_monthTold, if_neg q3, if_neg q17, if_pos q31, if_neg q32, if_neg q42, if_neg q44]
                exact e.symm
        · intro _ _
          intro _ _
          intro _ _
          have e : g_X12_repeats (S 134 (((S 99 65) - (Int32.ofInt 1)).toInt.toNat)) (S 135 (((S 99 65) - (Int32.ofInt 1)).toInt.toNat)) (S 136 (((S 99 65) - (Int32.ofInt 1)).toInt.toNat)) (z_s (z_s S 99 65 ((S 99 65) - (Int32.ofInt 1))) 99 3 ((S 99 3) + (Int32.ofInt 1))) = F_X12_monthTold  S := by rw [F_X12_monthTold, if_neg q3, if_neg q17, if_neg q31]
          exact e.symm
noncomputable def D_X12_timetable_49  (H49 : Int32 → v_Sf → Prop) (H111 : Int32 → Int32 → v_Sf → Prop) (K : Int32 → v_Sf → Prop) (x1 : Int32) (S : v_Sf) : Prop := (((f_X12_isGood S) = 0 → ((0 ≤ (S 99 5) → H111 x1 (Int32.ofInt 0) S) ∧ (¬ (0 ≤ (S 99 5)) → K (S 99 5) S))) ∧ (¬ ((f_X12_isGood S) = 0) → (((S 99 4) ≤ (S 99 3) → (((S 99 65) ≤ 0 → ((0 ≤ (S 99 5) → H111 x1 (Int32.ofInt 0) S) ∧ (¬ (0 ≤ (S 99 5)) → K (S 99 5) S))) ∧ (¬ ((S 99 65) ≤ 0) → ((0 ≤ ((g_X12_wrongs (Int32.ofInt 1) (S 99 3) S) 99 5) → H111 x1 (Int32.ofInt 0) (g_X12_wrongs (Int32.ofInt 1) (S 99 3) S)) ∧ (¬ (0 ≤ ((g_X12_wrongs (Int32.ofInt 1) (S 99 3) S) 99 5)) → K ((g_X12_wrongs (Int32.ofInt 1) (S 99 3) S) 99 5) (g_X12_wrongs (Int32.ofInt 1) (S 99 3) S)))))) ∧ (¬ ((S 99 4) ≤ (S 99 3)) → H49 x1 (g_X12_monthTold S)))))
noncomputable def D_X12_timetable_111  (H49 : Int32 → v_Sf → Prop) (H111 : Int32 → Int32 → v_Sf → Prop) (K : Int32 → v_Sf → Prop) (x1 : Int32) (x3 : Int32) (S : v_Sf) : Prop := (((S 99 64) ≤ x3 → (0 ≤ x1.toInt → x1.toInt < 6 → (0 ≤ x1.toInt → x1.toInt < 6 → K (S 99 64) (z_s (z_s S 127 x1.toInt.toNat (S 99 64)) 128 x1.toInt.toNat (Int32.ofInt 0))))) ∧ (¬ ((S 99 64) ≤ x3) → (0 ≤ x3.toInt → x3.toInt < 48 → (0 ≤ (((Int32.ofInt 48) * x1) + x3).toInt → (((Int32.ofInt 48) * x1) + x3).toInt < 288 → H111 x1 (x3 + (Int32.ofInt 1)) (z_s S 126 ((((Int32.ofInt 48) * x1) + x3).toInt.toNat) (S 133 x3.toInt.toNat))))))
noncomputable def D_X12_timetable (a : Int32) (b : Int32) (H49 : Int32 → v_Sf → Prop) (H111 : Int32 → Int32 → v_Sf → Prop) (K : Int32 → v_Sf → Prop) (S : v_Sf) : Prop := (((f_X12_isWard a) = 0 → K (Int32.ofInt (-1)) S) ∧ (¬ ((f_X12_isWard a) = 0) → (((z_in b 1 60) = 0 → K (Int32.ofInt (-1)) S) ∧ (¬ ((z_in b 1 60) = 0) → ((b ≤ (S 99 1) → H49 a (z_s (z_s (z_s (g_X12_begins b S) 99 64 (Int32.ofInt 0)) 99 65 (Int32.ofInt 0)) 99 66 (Int32.ofInt 0))) ∧ (¬ (b ≤ (S 99 1)) → K (Int32.ofInt (-1)) S))))))
set_option maxRecDepth 4000 in
theorem hd_X12_timetable (L : Nat) (xs : Nat → Int32) {R : v_Rf} (a : Int32) (b : Int32) (H49 : Int32 → v_Sf → Prop) (H111 : Int32 → Int32 → v_Sf → Prop) (K : Int32 → v_Sf → Prop) (k49 : ∀ (x1 : Int32) (S : v_Sf), H49 x1 S → D_X12_timetable_49 H49 H111 K x1 S) (k111 : ∀ (x1 : Int32) (x3 : Int32) (S : v_Sf), H111 x1 x3 S → D_X12_timetable_111 H49 H111 K x1 x3 S) : ∀ n, (∀ (d : Nat) (j2 : Int32) (x1 : Int32) (S : v_Sf), H49 x1 S → u_P L xs n d m_X12_timetable 49 [(0, .ref 100), (1, .int x1), (2, .int j2)] [] S R (z_Q R K)) ∧ (∀ (d : Nat) (j2 : Int32) (x1 : Int32) (x3 : Int32) (S : v_Sf), H111 x1 x3 S → u_P L xs n d m_X12_timetable 111 [(0, .ref 100), (1, .int x1), (2, .int j2), (3, .int x3)] [] S R (z_Q R K)) := by
  intro n
  induction n using Nat.strongRecOn with
  | ind n ih =>
    refine ⟨?_, ?_⟩
    · intro d j2 x1 S hD
      have hD := k49 x1 S hD
      unfold D_X12_timetable_49 at hD
      show u_P L xs n d m_X12_timetable 49 [(0, .ref 100), (1, .int x1), (2, .int j2)] [] S R _
      refine u_st1 rfl (fun _ => rfl) (fun m hm => ?_)
      show u_P L xs m d m_X12_timetable 50 [(0, .ref 100), (1, .int x1), (2, .int j2)] [.ref 100] S R _
      refine u_cv (rest := []) rfl (by decide) mt_X12_isGood v_tyM rfl rfl rfl (Nat.le_of_ble_eq_true rfl) (Nat.le_of_ble_eq_true rfl) (Nat.le_of_ble_eq_true rfl) (fun d' => c_X12_isGood L xs m d' S R) ?_
      rintro _ _ _ ⟨_, rfl, rfl, rfl, rfl⟩
      show u_P L xs m d m_X12_timetable 53 [(0, .ref 100), (1, .int x1), (2, .int j2)] [.int (f_X12_isGood S)] S R _
      refine u_if_eq rfl (fun h1 => ?_) (fun h1 => ?_)
      · have hD := hD.1 h1
        show u_P L xs m d m_X12_timetable 74 [(0, .ref 100), (1, .int x1), (2, .int j2)] [] S R _
        refine u_st rfl (fun _ => rfl) ?_
        show u_P L xs m d m_X12_timetable 75 [(0, .ref 100), (1, .int x1), (2, .int j2)] [.ref 100] S R _
        refine u_cv (rest := []) rfl (by decide) mt_X12_isGood v_tyM rfl rfl rfl (Nat.le_of_ble_eq_true rfl) (Nat.le_of_ble_eq_true rfl) (Nat.le_of_ble_eq_true rfl) (fun d' => c_X12_isGood L xs m d' S R) ?_
        rintro _ _ _ ⟨_, rfl, rfl, rfl, rfl⟩
        show u_P L xs m d m_X12_timetable 78 [(0, .ref 100), (1, .int x1), (2, .int j2)] [.int (f_X12_isGood S)] S R _
        refine u_if_eq rfl (fun _ => ?_) (fun h2 => absurd h1 h2)
        show u_P L xs m d m_X12_timetable 97 [(0, .ref 100), (1, .int x1), (2, .int j2)] [] S R _
        refine u_st rfl (fun _ => rfl) ?_
        show u_P L xs m d m_X12_timetable 98 [(0, .ref 100), (1, .int x1), (2, .int j2)] [.ref 100] S R _
        refine u_getE (v := S 99 5) rfl v_tyM rfl rfl ?_
        show u_P L xs m d m_X12_timetable 101 [(0, .ref 100), (1, .int x1), (2, .int j2)] [.int (S 99 5)] S R _
        refine u_if_ge rfl (fun h3 => ?_) (fun h3 => ?_)
        · have hD := hD.1 h3
          show u_P L xs m d m_X12_timetable 109 [(0, .ref 100), (1, .int x1), (2, .int j2)] [] S R _
          refine u_st rfl (fun _ => rfl) ?_
          refine u_st rfl (fun _ => rfl) ?_
          refine u_lc (b := [(0, .ref 100), (1, .int x1), (2, .int j2), (3, .int (Int32.ofInt 0))]) (show ([3, 0, 1, 2] : List Nat).Nodup by decide) (show ([0, 1, 2, 3] : List Nat).Nodup by decide) (fun i => match i with | 0 => rfl | 1 => rfl | 2 => rfl | 3 => rfl | _ + 4 => rfl) ?_
          exact (ih m hm).2 d j2 x1 (Int32.ofInt 0) S hD
        · have hD := hD.2 h3
          show u_P L xs m d m_X12_timetable 104 [(0, .ref 100), (1, .int x1), (2, .int j2)] [] S R _
          refine u_st rfl (fun _ => rfl) ?_
          show u_P L xs m d m_X12_timetable 105 [(0, .ref 100), (1, .int x1), (2, .int j2)] [.ref 100] S R _
          refine u_getE (v := S 99 5) rfl v_tyM rfl rfl ?_
          show u_P L xs m d m_X12_timetable 108 [(0, .ref 100), (1, .int x1), (2, .int j2)] [.int (S 99 5)] S R _
          exact u_ret rfl rfl ⟨_, rfl, rfl, hD⟩
      · have hD := hD.2 h1
        show u_P L xs m d m_X12_timetable 56 [(0, .ref 100), (1, .int x1), (2, .int j2)] [] S R _
        refine u_st rfl (fun _ => rfl) ?_
        show u_P L xs m d m_X12_timetable 57 [(0, .ref 100), (1, .int x1), (2, .int j2)] [.ref 100] S R _
        refine u_getE (v := S 99 3) rfl v_tyM rfl rfl ?_
        refine u_st rfl (fun _ => rfl) ?_
        show u_P L xs m d m_X12_timetable 61 [(0, .ref 100), (1, .int x1), (2, .int j2)] [.ref 100, .int (S 99 3)] S R _
        refine u_getE (v := S 99 4) rfl v_tyM rfl rfl ?_
        show u_P L xs m d m_X12_timetable 64 [(0, .ref 100), (1, .int x1), (2, .int j2)] [.int (S 99 4), .int (S 99 3)] S R _
        refine u_ic_ge rfl (fun h4 => ?_) (fun h4 => ?_)
        · have hD := hD.1 h4
          show u_P L xs m d m_X12_timetable 74 [(0, .ref 100), (1, .int x1), (2, .int j2)] [] S R _
          refine u_st rfl (fun _ => rfl) ?_
          show u_P L xs m d m_X12_timetable 75 [(0, .ref 100), (1, .int x1), (2, .int j2)] [.ref 100] S R _
          refine u_cv (rest := []) rfl (by decide) mt_X12_isGood v_tyM rfl rfl rfl (Nat.le_of_ble_eq_true rfl) (Nat.le_of_ble_eq_true rfl) (Nat.le_of_ble_eq_true rfl) (fun d' => c_X12_isGood L xs m d' S R) ?_
          rintro _ _ _ ⟨_, rfl, rfl, rfl, rfl⟩
          show u_P L xs m d m_X12_timetable 78 [(0, .ref 100), (1, .int x1), (2, .int j2)] [.int (f_X12_isGood S)] S R _
          refine u_if_eq rfl (fun h5 => absurd h5 h1) (fun _ => ?_)
          show u_P L xs m d m_X12_timetable 81 [(0, .ref 100), (1, .int x1), (2, .int j2)] [] S R _
          refine u_st rfl (fun _ => rfl) ?_
          show u_P L xs m d m_X12_timetable 82 [(0, .ref 100), (1, .int x1), (2, .int j2)] [.ref 100] S R _
          refine u_getE (v := S 99 65) rfl v_tyM rfl rfl ?_
          show u_P L xs m d m_X12_timetable 85 [(0, .ref 100), (1, .int x1), (2, .int j2)] [.int (S 99 65)] S R _
          refine u_if_le rfl (fun h6 => ?_) (fun h6 => ?_)
          · have hD := hD.1 h6
            show u_P L xs m d m_X12_timetable 97 [(0, .ref 100), (1, .int x1), (2, .int j2)] [] S R _
            refine u_st rfl (fun _ => rfl) ?_
            show u_P L xs m d m_X12_timetable 98 [(0, .ref 100), (1, .int x1), (2, .int j2)] [.ref 100] S R _
            refine u_getE (v := S 99 5) rfl v_tyM rfl rfl ?_
            show u_P L xs m d m_X12_timetable 101 [(0, .ref 100), (1, .int x1), (2, .int j2)] [.int (S 99 5)] S R _
            refine u_if_ge rfl (fun h7 => ?_) (fun h7 => ?_)
            · have hD := hD.1 h7
              show u_P L xs m d m_X12_timetable 109 [(0, .ref 100), (1, .int x1), (2, .int j2)] [] S R _
              refine u_st rfl (fun _ => rfl) ?_
              refine u_st rfl (fun _ => rfl) ?_
              refine u_lc (b := [(0, .ref 100), (1, .int x1), (2, .int j2), (3, .int (Int32.ofInt 0))]) (show ([3, 0, 1, 2] : List Nat).Nodup by decide) (show ([0, 1, 2, 3] : List Nat).Nodup by decide) (fun i => match i with | 0 => rfl | 1 => rfl | 2 => rfl | 3 => rfl | _ + 4 => rfl) ?_
              exact (ih m hm).2 d j2 x1 (Int32.ofInt 0) S hD
            · have hD := hD.2 h7
              show u_P L xs m d m_X12_timetable 104 [(0, .ref 100), (1, .int x1), (2, .int j2)] [] S R _
              refine u_st rfl (fun _ => rfl) ?_
              show u_P L xs m d m_X12_timetable 105 [(0, .ref 100), (1, .int x1), (2, .int j2)] [.ref 100] S R _
              refine u_getE (v := S 99 5) rfl v_tyM rfl rfl ?_
              show u_P L xs m d m_X12_timetable 108 [(0, .ref 100), (1, .int x1), (2, .int j2)] [.int (S 99 5)] S R _
              exact u_ret rfl rfl ⟨_, rfl, rfl, hD⟩
          · have hD := hD.2 h6
            show u_P L xs m d m_X12_timetable 88 [(0, .ref 100), (1, .int x1), (2, .int j2)] [] S R _
            refine u_st rfl (fun _ => rfl) ?_
            refine u_st rfl (fun _ => rfl) ?_
            refine u_st rfl (fun _ => rfl) ?_
            show u_P L xs m d m_X12_timetable 91 [(0, .ref 100), (1, .int x1), (2, .int j2)] [.ref 100, .int (Int32.ofInt 1), .ref 100] S R _
            refine u_getE (v := S 99 3) rfl v_tyM rfl rfl ?_
            show u_P L xs m d m_X12_timetable 94 [(0, .ref 100), (1, .int x1), (2, .int j2)] [.int (S 99 3), .int (Int32.ofInt 1), .ref 100] S R _
            refine u_cv (rest := []) rfl (by decide) mt_X12_wrongs v_tyM rfl rfl rfl (Nat.le_of_ble_eq_true rfl) (Nat.le_of_ble_eq_true rfl) (Nat.le_of_ble_eq_true rfl) (fun d' => c_X12_wrongs L xs m d' (Int32.ofInt 1) (S 99 3) S R) ?_
            rintro _ _ _ ⟨rfl, rfl, rfl⟩
            refine u_st rfl (fun _ => rfl) ?_
            show u_P L xs m d m_X12_timetable 98 [(0, .ref 100), (1, .int x1), (2, .int j2)] [.ref 100] (g_X12_wrongs (Int32.ofInt 1) (S 99 3) S) R _
            refine u_getE (v := (g_X12_wrongs (Int32.ofInt 1) (S 99 3) S) 99 5) rfl v_tyM rfl rfl ?_
            show u_P L xs m d m_X12_timetable 101 [(0, .ref 100), (1, .int x1), (2, .int j2)] [.int ((g_X12_wrongs (Int32.ofInt 1) (S 99 3) S) 99 5)] (g_X12_wrongs (Int32.ofInt 1) (S 99 3) S) R _
            refine u_if_ge rfl (fun h8 => ?_) (fun h8 => ?_)
            · have hD := hD.1 h8
              show u_P L xs m d m_X12_timetable 109 [(0, .ref 100), (1, .int x1), (2, .int j2)] [] (g_X12_wrongs (Int32.ofInt 1) (S 99 3) S) R _
              refine u_st rfl (fun _ => rfl) ?_
              refine u_st rfl (fun _ => rfl) ?_
              refine u_lc (b := [(0, .ref 100), (1, .int x1), (2, .int j2), (3, .int (Int32.ofInt 0))]) (show ([3, 0, 1, 2] : List Nat).Nodup by decide) (show ([0, 1, 2, 3] : List Nat).Nodup by decide) (fun i => match i with | 0 => rfl | 1 => rfl | 2 => rfl | 3 => rfl | _ + 4 => rfl) ?_
              exact (ih m hm).2 d j2 x1 (Int32.ofInt 0) (g_X12_wrongs (Int32.ofInt 1) (S 99 3) S) hD
            · have hD := hD.2 h8
              show u_P L xs m d m_X12_timetable 104 [(0, .ref 100), (1, .int x1), (2, .int j2)] [] (g_X12_wrongs (Int32.ofInt 1) (S 99 3) S) R _
              refine u_st rfl (fun _ => rfl) ?_
              show u_P L xs m d m_X12_timetable 105 [(0, .ref 100), (1, .int x1), (2, .int j2)] [.ref 100] (g_X12_wrongs (Int32.ofInt 1) (S 99 3) S) R _
              refine u_getE (v := (g_X12_wrongs (Int32.ofInt 1) (S 99 3) S) 99 5) rfl v_tyM rfl rfl ?_
              show u_P L xs m d m_X12_timetable 108 [(0, .ref 100), (1, .int x1), (2, .int j2)] [.int ((g_X12_wrongs (Int32.ofInt 1) (S 99 3) S) 99 5)] (g_X12_wrongs (Int32.ofInt 1) (S 99 3) S) R _
              exact u_ret rfl rfl ⟨_, rfl, rfl, hD⟩
        · have hD := hD.2 h4
          show u_P L xs m d m_X12_timetable 67 [(0, .ref 100), (1, .int x1), (2, .int j2)] [] S R _
          refine u_st rfl (fun _ => rfl) ?_
          show u_P L xs m d m_X12_timetable 68 [(0, .ref 100), (1, .int x1), (2, .int j2)] [.ref 100] S R _
          refine u_cv (rest := []) rfl (by decide) mt_X12_monthTold v_tyM rfl rfl rfl (Nat.le_of_ble_eq_true rfl) (Nat.le_of_ble_eq_true rfl) (Nat.le_of_ble_eq_true rfl) (fun d' => c_X12_monthTold L xs m d' S R) ?_
          rintro _ _ _ ⟨rfl, rfl, rfl⟩
          refine u_st rfl (fun _ => rfl) ?_
          exact (ih m hm).1 d j2 x1 (g_X12_monthTold S) hD
    · intro d j2 x1 x3 S hD
      have hD := k111 x1 x3 S hD
      unfold D_X12_timetable_111 at hD
      show u_P L xs n d m_X12_timetable 111 [(0, .ref 100), (1, .int x1), (2, .int j2), (3, .int x3)] [] S R _
      refine u_st1 rfl (fun _ => rfl) (fun m hm => ?_)
      refine u_st rfl (fun _ => rfl) ?_
      show u_P L xs m d m_X12_timetable 113 [(0, .ref 100), (1, .int x1), (2, .int j2), (3, .int x3)] [.ref 100, .int x3] S R _
      refine u_getE (v := S 99 64) rfl v_tyM rfl rfl ?_
      show u_P L xs m d m_X12_timetable 116 [(0, .ref 100), (1, .int x1), (2, .int j2), (3, .int x3)] [.int (S 99 64), .int x3] S R _
      refine u_ic_ge rfl (fun h1 => ?_) (fun h1 => ?_)
      · have hD := hD.1 h1
        show u_P L xs m d m_X12_timetable 142 [(0, .ref 100), (1, .int x1), (2, .int j2), (3, .int x3)] [] S R _
        refine u_st rfl (fun _ => rfl) ?_
        show u_P L xs m d m_X12_timetable 143 [(0, .ref 100), (1, .int x1), (2, .int j2), (3, .int x3)] [.ref 100] S R _
        refine u_getr rfl v_tyM rfl ?_
        refine u_st rfl (fun _ => rfl) ?_
        refine u_st rfl (fun _ => rfl) ?_
        show u_P L xs m d m_X12_timetable 148 [(0, .ref 100), (1, .int x1), (2, .int j2), (3, .int x3)] [.ref 100, .int x1, .ref 128] S R _
        refine u_getE (v := S 99 64) rfl v_tyM rfl rfl ?_
        show u_P L xs m d m_X12_timetable 151 [(0, .ref 100), (1, .int x1), (2, .int j2), (3, .int x3)] [.int (S 99 64), .int x1, .ref 128] S R _
        refine u_iast rfl rfl (fun b21 b22 => ?_)
        have hD := hD b21 b22
        show u_P L xs m d m_X12_timetable 152 [(0, .ref 100), (1, .int x1), (2, .int j2), (3, .int x3)] [] (z_s S 127 x1.toInt.toNat (S 99 64)) R _
        refine u_st rfl (fun _ => rfl) ?_
        show u_P L xs m d m_X12_timetable 153 [(0, .ref 100), (1, .int x1), (2, .int j2), (3, .int x3)] [.ref 100] (z_s S 127 x1.toInt.toNat (S 99 64)) R _
        refine u_getr rfl v_tyM rfl ?_
        refine u_st rfl (fun _ => rfl) ?_
        refine u_st rfl (fun _ => rfl) ?_
        show u_P L xs m d m_X12_timetable 158 [(0, .ref 100), (1, .int x1), (2, .int j2), (3, .int x3)] [.int (Int32.ofInt 0), .int x1, .ref 129] (z_s S 127 x1.toInt.toNat (S 99 64)) R _
        refine u_iast rfl rfl (fun b31 b32 => ?_)
        have hD := hD b31 b32
        show u_P L xs m d m_X12_timetable 159 [(0, .ref 100), (1, .int x1), (2, .int j2), (3, .int x3)] [] (z_s (z_s S 127 x1.toInt.toNat (S 99 64)) 128 x1.toInt.toNat (Int32.ofInt 0)) R _
        refine u_st rfl (fun _ => rfl) ?_
        show u_P L xs m d m_X12_timetable 160 [(0, .ref 100), (1, .int x1), (2, .int j2), (3, .int x3)] [.ref 100] (z_s (z_s S 127 x1.toInt.toNat (S 99 64)) 128 x1.toInt.toNat (Int32.ofInt 0)) R _
        refine u_getE (v := S 99 64) rfl v_tyM rfl ((z_sn (fun h => absurd h.1 (by decide))).trans (z_sn (fun h => absurd h.1 (by decide)))) ?_
        show u_P L xs m d m_X12_timetable 163 [(0, .ref 100), (1, .int x1), (2, .int j2), (3, .int x3)] [.int (S 99 64)] (z_s (z_s S 127 x1.toInt.toNat (S 99 64)) 128 x1.toInt.toNat (Int32.ofInt 0)) R _
        exact u_ret rfl rfl ⟨_, rfl, rfl, hD⟩
      · have hD := hD.2 h1
        show u_P L xs m d m_X12_timetable 119 [(0, .ref 100), (1, .int x1), (2, .int j2), (3, .int x3)] [] S R _
        refine u_st rfl (fun _ => rfl) ?_
        show u_P L xs m d m_X12_timetable 120 [(0, .ref 100), (1, .int x1), (2, .int j2), (3, .int x3)] [.ref 100] S R _
        refine u_getr rfl v_tyM rfl ?_
        refine u_st rfl (fun _ => rfl) ?_
        refine u_st rfl (fun _ => rfl) ?_
        refine u_st rfl (fun _ => rfl) ?_
        refine u_st rfl (fun _ => rfl) ?_
        refine u_st rfl (fun _ => rfl) ?_
        refine u_st rfl (fun _ => rfl) ?_
        show u_P L xs m d m_X12_timetable 130 [(0, .ref 100), (1, .int x1), (2, .int j2), (3, .int x3)] [.ref 100, .int (((Int32.ofInt 48) * x1) + x3), .ref 127] S R _
        refine u_getr rfl v_tyM rfl ?_
        refine u_st rfl (fun _ => rfl) ?_
        show u_P L xs m d m_X12_timetable 134 [(0, .ref 100), (1, .int x1), (2, .int j2), (3, .int x3)] [.int x3, .ref 134, .int (((Int32.ofInt 48) * x1) + x3), .ref 127] S R _
        refine u_ialdE (v := S 133 x3.toInt.toNat) rfl rfl rfl (fun b41 b42 => ?_)
        have hD := hD b41 b42
        show u_P L xs m d m_X12_timetable 135 [(0, .ref 100), (1, .int x1), (2, .int j2), (3, .int x3)] [.int (S 133 x3.toInt.toNat), .int (((Int32.ofInt 48) * x1) + x3), .ref 127] S R _
        refine u_iast rfl rfl (fun b51 b52 => ?_)
        have hD := hD b51 b52
        show u_P L xs m d m_X12_timetable 136 [(0, .ref 100), (1, .int x1), (2, .int j2), (3, .int x3)] [] (z_s S 126 ((((Int32.ofInt 48) * x1) + x3).toInt.toNat) (S 133 x3.toInt.toNat)) R _
        refine u_st rfl (fun _ => rfl) ?_
        refine u_st rfl (fun _ => rfl) ?_
        refine u_lc (b := [(0, .ref 100), (1, .int x1), (2, .int j2), (3, .int (x3 + (Int32.ofInt 1)))]) (show ([3, 0, 1, 2] : List Nat).Nodup by decide) (show ([0, 1, 2, 3] : List Nat).Nodup by decide) (fun i => match i with | 0 => rfl | 1 => rfl | 2 => rfl | 3 => rfl | _ + 4 => rfl) ?_
        exact (ih m hm).2 d j2 x1 (x3 + (Int32.ofInt 1)) (z_s S 126 ((((Int32.ofInt 48) * x1) + x3).toInt.toNat) (S 133 x3.toInt.toNat)) hD
set_option maxRecDepth 4000 in
theorem w_X12_timetable (L : Nat) (xs : Nat → Int32) {R : v_Rf} (a : Int32) (b : Int32) (H49 : Int32 → v_Sf → Prop) (H111 : Int32 → Int32 → v_Sf → Prop) (K : Int32 → v_Sf → Prop) (k49 : ∀ (x1 : Int32) (S : v_Sf), H49 x1 S → D_X12_timetable_49 H49 H111 K x1 S) (k111 : ∀ (x1 : Int32) (x3 : Int32) (S : v_Sf), H111 x1 x3 S → D_X12_timetable_111 H49 H111 K x1 x3 S) (n d : Nat) (S : v_Sf) (hD : D_X12_timetable a b H49 H111 K S) : u_P L xs n d m_X12_timetable 0 (lv_args 0 [.ref 100, .int a, .int b]) [] S R (z_Q R K) := by
  unfold D_X12_timetable at hD
  show u_P L xs n d m_X12_timetable 0 [(0, .ref 100), (1, .int a), (2, .int b)] [] S R _
  refine u_st rfl (fun _ => rfl) ?_
  show u_P L xs n d m_X12_timetable 1 [(0, .ref 100), (1, .int a), (2, .int b)] [.int a] S R _
  refine u_cs (ac := [.int a]) (rest := []) rfl (by decide) mt_X12_isWard (fun _ => rfl) (Nat.le_of_ble_eq_true rfl) (Nat.le_of_ble_eq_true rfl) (fun d' => c_X12_isWard L xs n d' a S R) ?_
  rintro _ _ _ ⟨_, rfl, rfl, rfl, rfl⟩
  show u_P L xs n d m_X12_timetable 4 [(0, .ref 100), (1, .int a), (2, .int b)] [.int (f_X12_isWard a)] S R _
  refine u_if_eq rfl (fun h1 => ?_) (fun h1 => ?_)
  · have hD := hD.1 h1
    show u_P L xs n d m_X12_timetable 27 [(0, .ref 100), (1, .int a), (2, .int b)] [] S R _
    refine u_st rfl (fun _ => rfl) ?_
    show u_P L xs n d m_X12_timetable 28 [(0, .ref 100), (1, .int a), (2, .int b)] [.int (Int32.ofInt (-1))] S R _
    exact u_ret rfl rfl ⟨_, rfl, rfl, hD⟩
  · have hD := hD.2 h1
    show u_P L xs n d m_X12_timetable 7 [(0, .ref 100), (1, .int a), (2, .int b)] [] S R _
    refine u_st rfl (fun _ => rfl) ?_
    refine u_st rfl (fun _ => rfl) ?_
    refine u_st rfl (fun _ => rfl) ?_
    refine u_st rfl (fun _ => rfl) ?_
    show u_P L xs n d m_X12_timetable 13 [(0, .ref 100), (1, .int a), (2, .int b)] [.long (Int64.ofInt 60), .long (Int64.ofNat 1), .long b.toInt64] S R _
    refine u_cs (ac := [.long b.toInt64, .long (Int64.ofNat 1), .long (Int64.ofInt 60)]) (rest := []) rfl (by decide) mt_X12_lies (fun _ => rfl) (Nat.le_of_ble_eq_true rfl) (Nat.le_of_ble_eq_true rfl) (fun d' => z_liesC L xs n d' b (Int64.ofNat 1) (Int64.ofInt 60) (lo := 1) (hi := 60) rfl rfl S R) ?_
    rintro _ _ _ ⟨_, rfl, rfl, rfl, rfl⟩
    show u_P L xs n d m_X12_timetable 16 [(0, .ref 100), (1, .int a), (2, .int b)] [.int (z_in b 1 60)] S R _
    refine u_if_eq rfl (fun h2 => ?_) (fun h2 => ?_)
    · have hD := hD.1 h2
      show u_P L xs n d m_X12_timetable 27 [(0, .ref 100), (1, .int a), (2, .int b)] [] S R _
      refine u_st rfl (fun _ => rfl) ?_
      show u_P L xs n d m_X12_timetable 28 [(0, .ref 100), (1, .int a), (2, .int b)] [.int (Int32.ofInt (-1))] S R _
      exact u_ret rfl rfl ⟨_, rfl, rfl, hD⟩
    · have hD := hD.2 h2
      show u_P L xs n d m_X12_timetable 19 [(0, .ref 100), (1, .int a), (2, .int b)] [] S R _
      refine u_st rfl (fun _ => rfl) ?_
      refine u_st rfl (fun _ => rfl) ?_
      show u_P L xs n d m_X12_timetable 21 [(0, .ref 100), (1, .int a), (2, .int b)] [.ref 100, .int b] S R _
      refine u_getE (v := S 99 1) rfl v_tyM rfl rfl ?_
      show u_P L xs n d m_X12_timetable 24 [(0, .ref 100), (1, .int a), (2, .int b)] [.int (S 99 1), .int b] S R _
      refine u_ic_le rfl (fun h3 => ?_) (fun h3 => ?_)
      · have hD := hD.1 h3
        show u_P L xs n d m_X12_timetable 29 [(0, .ref 100), (1, .int a), (2, .int b)] [] S R _
        refine u_st rfl (fun _ => rfl) ?_
        refine u_st rfl (fun _ => rfl) ?_
        show u_P L xs n d m_X12_timetable 31 [(0, .ref 100), (1, .int a), (2, .int b)] [.int b, .ref 100] S R _
        refine u_cv (rest := []) rfl (by decide) mt_X12_begins v_tyM rfl rfl rfl (Nat.le_of_ble_eq_true rfl) (Nat.le_of_ble_eq_true rfl) (Nat.le_of_ble_eq_true rfl) (fun d' => c_X12_begins L xs n d' b S R) ?_
        rintro _ _ _ ⟨rfl, rfl, rfl⟩
        refine u_st rfl (fun _ => rfl) ?_
        refine u_st rfl (fun _ => rfl) ?_
        show u_P L xs n d m_X12_timetable 36 [(0, .ref 100), (1, .int a), (2, .int b)] [.int (Int32.ofInt 0), .ref 100] (g_X12_begins b S) R _
        refine u_put rfl v_tyM rfl ?_
        refine u_st rfl (fun _ => rfl) ?_
        refine u_st rfl (fun _ => rfl) ?_
        show u_P L xs n d m_X12_timetable 41 [(0, .ref 100), (1, .int a), (2, .int b)] [.int (Int32.ofInt 0), .ref 100] (z_s (g_X12_begins b S) 99 64 (Int32.ofInt 0)) R _
        refine u_put rfl v_tyM rfl ?_
        refine u_st rfl (fun _ => rfl) ?_
        refine u_st rfl (fun _ => rfl) ?_
        show u_P L xs n d m_X12_timetable 46 [(0, .ref 100), (1, .int a), (2, .int b)] [.int (Int32.ofInt 0), .ref 100] (z_s (z_s (g_X12_begins b S) 99 64 (Int32.ofInt 0)) 99 65 (Int32.ofInt 0)) R _
        refine u_put rfl v_tyM rfl ?_
        exact (hd_X12_timetable L xs a b H49 H111 K k49 k111 n).1 d b a (z_s (z_s (z_s (g_X12_begins b S) 99 64 (Int32.ofInt 0)) 99 65 (Int32.ofInt 0)) 99 66 (Int32.ofInt 0)) hD
      · have hD := hD.2 h3
        show u_P L xs n d m_X12_timetable 27 [(0, .ref 100), (1, .int a), (2, .int b)] [] S R _
        refine u_st rfl (fun _ => rfl) ?_
        show u_P L xs n d m_X12_timetable 28 [(0, .ref 100), (1, .int a), (2, .int b)] [.int (Int32.ofInt (-1))] S R _
        exact u_ret rfl rfl ⟨_, rfl, rfl, hD⟩
noncomputable def s_X12_timetable_111 (x1 : Int32) (x3 : Int32) (S : v_Sf) : (Int32 × v_Sf) ⊕ (Int32 × v_Sf) := (if (S 99 64) ≤ x3 then (Sum.inr ((S 99 64, z_s (z_s S 127 x1.toInt.toNat (S 99 64)) 128 x1.toInt.toNat (Int32.ofInt 0)))) else (Sum.inl ((x3 + (Int32.ofInt 1)), (z_s S 126 ((((Int32.ofInt 48) * x1) + x3).toInt.toNat) (S 133 x3.toInt.toNat)))))
noncomputable def s_X12_timetable_49 (x1 : Int32) (S : v_Sf) : (v_Sf) ⊕ (Int32 × v_Sf) := (if (f_X12_isGood S) = 0 then (if 0 ≤ (S 99 5) then (Sum.inr (z_lim (fun p => s_X12_timetable_111 x1 p.1 p.2) (Int32.ofInt 0, S) ((Int32.ofInt 0), S))) else (Sum.inr ((S 99 5, S)))) else (if (S 99 4) ≤ (S 99 3) then (if (S 99 65) ≤ 0 then (if 0 ≤ (S 99 5) then (Sum.inr (z_lim (fun p => s_X12_timetable_111 x1 p.1 p.2) (Int32.ofInt 0, S) ((Int32.ofInt 0), S))) else (Sum.inr ((S 99 5, S)))) else (if 0 ≤ ((g_X12_wrongs (Int32.ofInt 1) (S 99 3) S) 99 5) then (Sum.inr (z_lim (fun p => s_X12_timetable_111 x1 p.1 p.2) (Int32.ofInt 0, S) ((Int32.ofInt 0), (g_X12_wrongs (Int32.ofInt 1) (S 99 3) S)))) else (Sum.inr (((g_X12_wrongs (Int32.ofInt 1) (S 99 3) S) 99 5, g_X12_wrongs (Int32.ofInt 1) (S 99 3) S))))) else (Sum.inl (g_X12_monthTold S))))
noncomputable def F_X12_timetable (a : Int32) (b : Int32) (S : v_Sf) : Int32 × v_Sf := (if (f_X12_isWard a) = 0 then (Int32.ofInt (-1), S) else (if (z_in b 1 60) = 0 then (Int32.ofInt (-1), S) else (if b ≤ (S 99 1) then z_lim (fun p => s_X12_timetable_49 a p) (Int32.ofInt 0, S) (z_s (z_s (z_s (g_X12_begins b S) 99 64 (Int32.ofInt 0)) 99 65 (Int32.ofInt 0)) 99 66 (Int32.ofInt 0)) else (Int32.ofInt (-1), S))))
noncomputable def f_X12_timetable (a : Int32) (b : Int32) (S : v_Sf) : Int32 := (F_X12_timetable a b S).1
noncomputable def g_X12_timetable (a : Int32) (b : Int32) (S : v_Sf) : v_Sf := (F_X12_timetable a b S).2
theorem c_X12_timetable (L : Nat) (xs : Nat → Int32) (n d : Nat) (a : Int32) (b : Int32) (S : v_Sf) (R : v_Rf) : u_P L xs n d m_X12_timetable 0 (lv_args 0 [.ref 100, .int a, .int b]) [] S R (z_Q R (fun v S1 => f_X12_timetable a b S = v ∧ g_X12_timetable a b S = S1)) := by
  refine w_X12_timetable L xs a b (fun y1 T => a = y1 ∧ (∀ N out, z_itr (fun p => s_X12_timetable_49 a p) N T = some out → F_X12_timetable a b S = out)) (fun y1 y3 T => a = y1 ∧ (∀ N out, z_itr (fun p => s_X12_timetable_111 a p.1 p.2) N (y3, T) = some out → F_X12_timetable a b S = out)) (fun v S1 => f_X12_timetable a b S = v ∧ g_X12_timetable a b S = S1) ?_ ?_ n d S ?_
  · rintro _ S1 ⟨rfl, e⟩
    unfold D_X12_timetable_49
    refine ⟨fun q1 => ?_, fun q1 => ?_⟩
    · refine ⟨fun q2 => ?_, fun q2 => ?_⟩
      · have e := (e 1 _ (z_itr_r (by show s_X12_timetable_49 a S1 = _; rw [s_X12_timetable_49, if_pos q1, if_pos q2]))).symm
        exact ⟨rfl, fun N out h => e.symm.trans (z_lim_eq h)⟩
      · have e := (e 1 _ (z_itr_r (by show s_X12_timetable_49 a S1 = _; rw [s_X12_timetable_49, if_pos q1, if_neg q2]))).symm
        have e1 := congrArg Prod.fst e.symm
        have e2 := congrArg Prod.snd e.symm
        exact ⟨e1, e2⟩
    · refine ⟨fun q3 => ?_, fun q3 => ?_⟩
      · refine ⟨fun q4 => ?_, fun q4 => ?_⟩
        · refine ⟨fun q5 => ?_, fun q5 => ?_⟩
          · have e := (e 1 _ (z_itr_r (by show s_X12_timetable_49 a S1 = _; rw [s_X12_timetable_49, if_neg q1, if_pos q3, if_pos q4, if_pos q5]))).symm
            exact ⟨rfl, fun N out h => e.symm.trans (z_lim_eq h)⟩
          · have e := (e 1 _ (z_itr_r (by show s_X12_timetable_49 a S1 = _; rw [s_X12_timetable_49, if_neg q1, if_pos q3, if_pos q4, if_neg q5]))).symm
            have e1 := congrArg Prod.fst e.symm
            have e2 := congrArg Prod.snd e.symm
            exact ⟨e1, e2⟩
        · refine ⟨fun q6 => ?_, fun q6 => ?_⟩
          · have e := (e 1 _ (z_itr_r (by show s_X12_timetable_49 a S1 = _; rw [s_X12_timetable_49, if_neg q1, if_pos q3, if_neg q4, if_pos q6]))).symm
            exact ⟨rfl, fun N out h => e.symm.trans (z_lim_eq h)⟩
          · have e := (e 1 _ (z_itr_r (by show s_X12_timetable_49 a S1 = _; rw [s_X12_timetable_49, if_neg q1, if_pos q3, if_neg q4, if_neg q6]))).symm
            have e1 := congrArg Prod.fst e.symm
            have e2 := congrArg Prod.snd e.symm
            exact ⟨e1, e2⟩
      · exact ⟨rfl, fun N out h => e (N + 1) out ((z_itr_l (by show s_X12_timetable_49 a S1 = _; rw [s_X12_timetable_49, if_neg q1, if_neg q3])).trans h)⟩
  · rintro _ x3 S1 ⟨rfl, e⟩
    unfold D_X12_timetable_111
    refine ⟨fun q7 => ?_, fun q7 => ?_⟩
    · intro _ _
      intro _ _
      have e := (e 1 _ (z_itr_r (by show s_X12_timetable_111 a x3 S1 = _; rw [s_X12_timetable_111, if_pos q7]))).symm
      have e1 := congrArg Prod.fst e.symm
      have e2 := congrArg Prod.snd e.symm
      exact ⟨e1, e2⟩
    · intro _ _
      intro _ _
      exact ⟨rfl, fun N out h => e (N + 1) out ((z_itr_l (by show s_X12_timetable_111 a x3 S1 = _; rw [s_X12_timetable_111, if_neg q7])).trans h)⟩
  · unfold D_X12_timetable
    refine ⟨fun q8 => ?_, fun q8 => ?_⟩
    · have e : (Int32.ofInt (-1), S) = F_X12_timetable a b S := by rw [F_X12_timetable, if_pos q8]
      have e1 := congrArg Prod.fst e.symm
      have e2 := congrArg Prod.snd e.symm
      exact ⟨e1, e2⟩
    · refine ⟨fun q9 => ?_, fun q9 => ?_⟩
      · have e : (Int32.ofInt (-1), S) = F_X12_timetable a b S := by rw [F_X12_timetable, if_neg q8, if_pos q9]
        have e1 := congrArg Prod.fst e.symm
        have e2 := congrArg Prod.snd e.symm
        exact ⟨e1, e2⟩
      · refine ⟨fun q10 => ?_, fun q10 => ?_⟩
        · have e : z_lim (fun p => s_X12_timetable_49 a p) (Int32.ofInt 0, S) (z_s (z_s (z_s (g_X12_begins b S) 99 64 (Int32.ofInt 0)) 99 65 (Int32.ofInt 0)) 99 66 (Int32.ofInt 0)) = F_X12_timetable a b S := by rw [F_X12_timetable, if_neg q8, if_neg q9, if_pos q10]
          exact ⟨rfl, fun N out h => e.symm.trans (z_lim_eq h)⟩
        · have e : (Int32.ofInt (-1), S) = F_X12_timetable a b S := by rw [F_X12_timetable, if_neg q8, if_neg q9, if_neg q10]
          have e1 := congrArg Prod.fst e.symm
          have e2 := congrArg Prod.snd e.symm
          exact ⟨e1, e2⟩
end PrtS42u
