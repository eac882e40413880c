section PrtS42wc
noncomputable abbrev m_X12_lower : g_M := (g_cn 12, yX12_lower, cX12_lower, 2, (some .int), g_look2 ttX12_lower)
set_option maxRecDepth 20000 in
theorem mt_X12_lower : g_mt 280 = some m_X12_lower := rfl
noncomputable def f_X12_lower (a : Int32) (b : Int32) : Int32 := (if b ≤ a then b else a)
set_option maxRecDepth 4000 in
theorem c_X12_lower (L : Nat) (xs : Nat → Int32) (n d : Nat) (a : Int32) (b : Int32) (S : v_Sf) (R : v_Rf) : u_P L xs n d m_X12_lower 0 (lv_args 0 [.int a, .int b]) [] S R (z_Q R (fun v S1 => f_X12_lower a b = v ∧ S = S1)) := by
  show u_P L xs n d m_X12_lower 0 [(0, .int a), (1, .int b)] [] S R _
  refine u_st rfl (fun _ => rfl) ?_
  refine u_st rfl (fun _ => rfl) ?_
  show u_P L xs n d m_X12_lower 2 [(0, .int a), (1, .int b)] [.int b, .int a] S R _
  refine u_ic_ge rfl (fun h1 => ?_) (fun h1 => ?_)
  · show u_P L xs n d m_X12_lower 9 [(0, .int a), (1, .int b)] [] S R _
    refine u_st rfl (fun _ => rfl) ?_
    show u_P L xs n d m_X12_lower 10 [(0, .int a), (1, .int b)] [.int b] S R _
    exact u_ret rfl rfl ⟨_, rfl, rfl, by rw [f_X12_lower, if_pos h1], rfl⟩
  · show u_P L xs n d m_X12_lower 5 [(0, .int a), (1, .int b)] [] S R _
    refine u_st rfl (fun _ => rfl) ?_
    refine u_st rfl (fun _ => rfl) ?_
    show u_P L xs n d m_X12_lower 10 [(0, .int a), (1, .int b)] [.int a] S R _
    exact u_ret rfl rfl ⟨_, rfl, rfl, by rw [f_X12_lower, if_neg h1], rfl⟩
noncomputable abbrev m_X12_higher : g_M := (g_cn 12, yX12_higher, cX12_higher, 2, (some .int), g_look2 ttX12_higher)
set_option maxRecDepth 20000 in
theorem mt_X12_higher : g_mt 281 = some m_X12_higher := rfl
noncomputable def f_X12_higher (a : Int32) (b : Int32) : Int32 := (if a ≤ b then b else a)
set_option maxRecDepth 4000 in
theorem c_X12_higher (L : Nat) (xs : Nat → Int32) (n d : Nat) (a : Int32) (b : Int32) (S : v_Sf) (R : v_Rf) : u_P L xs n d m_X12_higher 0 (lv_args 0 [.int a, .int b]) [] S R (z_Q R (fun v S1 => f_X12_higher a b = v ∧ S = S1)) := by
  show u_P L xs n d m_X12_higher 0 [(0, .int a), (1, .int b)] [] S R _
  refine u_st rfl (fun _ => rfl) ?_
  refine u_st rfl (fun _ => rfl) ?_
  show u_P L xs n d m_X12_higher 2 [(0, .int a), (1, .int b)] [.int b, .int a] S R _
  refine u_ic_le rfl (fun h1 => ?_) (fun h1 => ?_)
  · show u_P L xs n d m_X12_higher 9 [(0, .int a), (1, .int b)] [] S R _
    refine u_st rfl (fun _ => rfl) ?_
    show u_P L xs n d m_X12_higher 10 [(0, .int a), (1, .int b)] [.int b] S R _
    exact u_ret rfl rfl ⟨_, rfl, rfl, by rw [f_X12_higher, if_pos h1], rfl⟩
  · show u_P L xs n d m_X12_higher 5 [(0, .int a), (1, .int b)] [] S R _
    refine u_st rfl (fun _ => rfl) ?_
    refine u_st rfl (fun _ => rfl) ?_
    show u_P L xs n d m_X12_higher 10 [(0, .int a), (1, .int b)] [.int a] S R _
    exact u_ret rfl rfl ⟨_, rfl, rfl, by rw [f_X12_higher, if_neg h1], rfl⟩
noncomputable abbrev m_X12_hourOf : g_M := (g_cn 12, yX12_hourOf, cX12_hourOf, 2, (some .int), g_look2 ttX12_hourOf)
set_option maxRecDepth 20000 in
theorem mt_X12_hourOf : g_mt 282 = some m_X12_hourOf := rfl
noncomputable def f_X12_hourOf (k : Int32) (S : v_Sf) : Int32 := f_X12_byteAt ((Int32.ofInt 3) * k) S
set_option maxRecDepth 4000 in
theorem c_X12_hourOf (L : Nat) (xs : Nat → Int32) (n d : Nat) (k : Int32) (S : v_Sf) (R : v_Rf) : u_P L xs n d m_X12_hourOf 0 (lv_args 0 [.ref 100, .int k]) [] S R (z_Q R (fun v S1 => f_X12_hourOf k S = v ∧ S = S1)) := by
  show u_P L xs n d m_X12_hourOf 0 [(0, .ref 100), (1, .int k)] [] S R _
  refine u_st rfl (fun _ => rfl) ?_
  refine u_st rfl (fun _ => rfl) ?_
  refine u_st rfl (fun _ => rfl) ?_
  refine u_st rfl (fun _ => rfl) ?_
  show u_P L xs n d m_X12_hourOf 4 [(0, .ref 100), (1, .int k)] [.int ((Int32.ofInt 3) * k), .ref 100] S R _
  refine u_cv (rest := []) rfl (by decide) mt_X12_byteAt v_tyM rfl rfl rfl (Nat.le_of_ble_eq_true rfl) (Nat.le_of_ble_eq_true rfl) (Nat.le_of_ble_eq_true rfl) (fun d' => c_X12_byteAt L xs n d' ((Int32.ofInt 3) * k) S R) ?_
  rintro _ _ _ ⟨_, rfl, rfl, rfl, rfl⟩
  show u_P L xs n d m_X12_hourOf 7 [(0, .ref 100), (1, .int k)] [.int (f_X12_byteAt ((Int32.ofInt 3) * k) S)] S R _
  exact u_ret rfl rfl ⟨_, rfl, rfl, rfl, rfl⟩
noncomputable abbrev m_X12_laysAhead : g_M := (g_cn 12, yX12_laysAhead, cX12_laysAhead, 5, (some .boolean), g_look2 ttX12_laysAhead)
set_option maxRecDepth 20000 in
theorem mt_X12_laysAhead : g_mt 283 = some m_X12_laysAhead := rfl
noncomputable def D_X12_laysAhead_2  (H2 : Int32 → Int32 → Int32 → v_Sf → Prop) (K : Int32 → v_Sf → Prop) (x1 : Int32) (x2 : Int32) (x3 : Int32) (S : v_Sf) : Prop := ((x1 ≤ x3 → K (Int32.ofInt 1) S) ∧ (¬ (x1 ≤ x3) → (((¬ x3 = 0) → (0 ≤ (x3 - (Int32.ofInt 1)).toInt → (x3 - (Int32.ofInt 1)).toInt < 8 → (0 ≤ x3.toInt → x3.toInt < 8 → (0 ≤ (x3 - (Int32.ofInt 1)).toInt → (x3 - (Int32.ofInt 1)).toInt < 8 → (0 ≤ x3.toInt → x3.toInt < 8 → (0 ≤ x3.toInt → x3.toInt < 8 → (0 ≤ x3.toInt → x3.toInt < 8 → (((f_X12_higher (f_X12_byteAt (((Int32.ofInt 3) * x3) + (Int32.ofInt 1)) S) ((S 167 ((x3 - (Int32.ofInt 1)).toInt.toNat)) - (x2 * ((f_X12_hourOf x3 S) - (f_X12_hourOf (x3 - (Int32.ofInt 1)) S))))) ≤ (f_X12_lower (f_X12_byteAt (((Int32.ofInt 3) * x3) + (Int32.ofInt 2)) (z_s S 167 x3.toInt.toNat (f_X12_higher (f_X12_byteAt (((Int32.ofInt 3) * x3) + (Int32.ofInt 1)) S) ((S 167 ((x3 - (Int32.ofInt 1)).toInt.toNat)) - (x2 * ((f_X12_hourOf x3 S) - (f_X12_hourOf (x3 - (Int32.ofInt 1)) S))))))) ((S 168 ((x3 - (Int32.ofInt 1)).toInt.toNat)) + (x2 * ((f_X12_hourOf x3 S) - (f_X12_hourOf (x3 - (Int32.ofInt 1)) S))))) → H2 x1 x2 (x3 + (Int32.ofInt 1)) (z_s (z_s S 167 x3.toInt.toNat (f_X12_higher (f_X12_byteAt (((Int32.ofInt 3) * x3) + (Int32.ofInt 1)) S) ((S 167 ((x3 - (Int32.ofInt 1)).toInt.toNat)) - (x2 * ((f_X12_hourOf x3 S) - (f_X12_hourOf (x3 - (Int32.ofInt 1)) S)))))) 168 x3.toInt.toNat (f_X12_lower (f_X12_byteAt (((Int32.ofInt 3) * x3) + (Int32.ofInt 2)) (z_s S 167 x3.toInt.toNat (f_X12_higher (f_X12_byteAt (((Int32.ofInt 3) * x3) + (Int32.ofInt 1)) S) ((S 167 ((x3 - (Int32.ofInt 1)).toInt.toNat)) - (x2 * ((f_X12_hourOf x3 S) - (f_X12_hourOf (x3 - (Int32.ofInt 1)) S))))))) ((S 168 ((x3 - (Int32.ofInt 1)).toInt.toNat)) + (x2 * ((f_X12_hourOf x3 S) - (f_X12_hourOf (x3 - (Int32.ofInt 1)) S))))))) ∧ (¬ ((f_X12_higher (f_X12_byteAt (((Int32.ofInt 3) * x3) + (Int32.ofInt 1)) S) ((S 167 ((x3 - (Int32.ofInt 1)).toInt.toNat)) - (x2 * ((f_X12_hourOf x3 S) - (f_X12_hourOf (x3 - (Int32.ofInt 1)) S))))) ≤ (f_X12_lower (f_X12_byteAt (((Int32.ofInt 3) * x3) + (Int32.ofInt 2)) (z_s S 167 x3.toInt.toNat (f_X12_higher (f_X12_byteAt (((Int32.ofInt 3) * x3) + (Int32.ofInt 1)) S) ((S 167 ((x3 - (Int32.ofInt 1)).toInt.toNat)) - (x2 * ((f_X12_hourOf x3 S) - (f_X12_hourOf (x3 - (Int32.ofInt 1)) S))))))) ((S 168 ((x3 - (Int32.ofInt 1)).toInt.toNat)) + (x2 * ((f_X12_hourOf x3 S) - (f_X12_hourOf (x3 - (Int32.ofInt 1)) S)))))) → K (Int32.ofInt 0) (z_s (z_s S 167 x3.toInt.toNat (f_X12_higher (f_X12_byteAt (((Int32.ofInt 3) * x3) + (Int32.ofInt 1)) S) ((S 167 ((x3 - (Int32.ofInt 1)).toInt.toNat)) - (x2 * ((f_X12_hourOf x3 S) - (f_X12_hourOf (x3 - (Int32.ofInt 1)) S)))))) 168 x3.toInt.toNat (f_X12_lower (f_X12_byteAt (((Int32.ofInt 3) * x3) + (Int32.ofInt 2)) (z_s S 167 x3.toInt.toNat (f_X12_higher (f_X12_byteAt (((Int32.ofInt 3) * x3) + (Int32.ofInt 1)) S) ((S 167 ((x3 - (Int32.ofInt 1)).toInt.toNat)) - (x2 * ((f_X12_hourOf x3 S) - (f_X12_hourOf (x3 - (Int32.ofInt 1)) S))))))) ((S 168 ((x3 - (Int32.ofInt 1)).toInt.toNat)) + (x2 * ((f_X12_hourOf x3 S) - (f_X12_hourOf (x3 - (Int32.ofInt 1)) S))))))))))))))) ∧ (¬ (¬ x3 = 0) → (0 ≤ x3.toInt → x3.toInt < 8 → (0 ≤ x3.toInt → x3.toInt < 8 → (0 ≤ x3.toInt → x3.toInt < 8 → (0 ≤ x3.toInt → x3.toInt < 8 → (((f_X12_higher (f_X12_byteAt (((Int32.ofInt 3) * x3) + (Int32.ofInt 1)) S) (Int32.ofInt 0)) ≤ (f_X12_lower (f_X12_byteAt (((Int32.ofInt 3) * x3) + (Int32.ofInt 2)) (z_s S 167 x3.toInt.toNat (f_X12_higher (f_X12_byteAt (((Int32.ofInt 3) * x3) + (Int32.ofInt 1)) S) (Int32.ofInt 0)))) (Int32.ofInt 250)) → H2 x1 x2 (x3 + (Int32.ofInt 1)) (z_s (z_s S 167 x3.toInt.toNat (f_X12_higher (f_X12_byteAt (((Int32.ofInt 3) * x3) + (Int32.ofInt 1)) S) (Int32.ofInt 0))) 168 x3.toInt.toNat (f_X12_lower (f_X12_byteAt (((Int32.ofInt 3) * x3) + (Int32.ofInt 2)) (z_s S 167 x3.toInt.toNat (f_X12_higher (f_X12_byteAt (((Int32.ofInt 3) * x3) + (Int32.ofInt 1)) S) (Int32.ofInt 0)))) (Int32.ofInt 250)))) ∧ (¬ ((f_X12_higher (f_X12_byteAt (((Int32.ofInt 3) * x3) + (Int32.ofInt 1)) S) (Int32.ofInt 0)) ≤ (f_X12_lower (f_X12_byteAt (((Int32.ofInt 3) * x3) + (Int32.ofInt 2)) (z_s S 167 x3.toInt.toNat (f_X12_higher (f_X12_byteAt (((Int32.ofInt 3) * x3) + (Int32.ofInt 1)) S) (Int32.ofInt 0)))) (Int32.ofInt 250))) → K (Int32.ofInt 0) (z_s (z_s S 167 x3.toInt.toNat (f_X12_higher (f_X12_byteAt (((Int32.ofInt 3) * x3) + (Int32.ofInt 1)) S) (Int32.ofInt 0))) 168 x3.toInt.toNat (f_X12_lower (f_X12_byteAt (((Int32.ofInt 3) * x3) + (Int32.ofInt 2)) (z_s S 167 x3.toInt.toNat (f_X12_higher (f_X12_byteAt (((Int32.ofInt 3) * x3) + (Int32.ofInt 1)) S) (Int32.ofInt 0)))) (Int32.ofInt 250)))))))))))))
noncomputable def D_X12_laysAhead (a : Int32) (b : Int32) (H2 : Int32 → Int32 → Int32 → v_Sf → Prop) (K : Int32 → v_Sf → Prop) (S : v_Sf) : Prop := H2 a b (Int32.ofInt 0) S
set_option maxRecDepth 4000 in
theorem hd_X12_laysAhead (L : Nat) (xs : Nat → Int32) {R : v_Rf} (a : Int32) (b : Int32) (H2 : Int32 → Int32 → Int32 → v_Sf → Prop) (K : Int32 → v_Sf → Prop) (k2 : ∀ (x1 : Int32) (x2 : Int32) (x3 : Int32) (S : v_Sf), H2 x1 x2 x3 S → D_X12_laysAhead_2 H2 K x1 x2 x3 S) : ∀ n, (∀ (d : Nat) (x1 : Int32) (x2 : Int32) (x3 : Int32) (S : v_Sf), H2 x1 x2 x3 S → u_P L xs n d m_X12_laysAhead 2 [(0, .ref 100), (1, .int x1), (2, .int x2), (3, .int x3)] [] S R (z_Q R K)) ∧ (∀ (d : Nat) (j4 : Int32) (x1 : Int32) (x2 : Int32) (x3 : Int32) (S : v_Sf), H2 x1 x2 x3 S → u_P L xs n d m_X12_laysAhead 2 [(0, .ref 100), (1, .int x1), (2, .int x2), (3, .int x3), (4, .int j4)] [] S R (z_Q R K)) := by
  intro n
  induction n using Nat.strongRecOn with
  | ind n ih =>
    refine ⟨?_, ?_⟩
    · intro d x1 x2 x3 S hD
      have hD := k2 x1 x2 x3 S hD
      unfold D_X12_laysAhead_2 at hD
      show u_P L xs n d m_X12_laysAhead 2 [(0, .ref 100), (1, .int x1), (2, .int x2), (3, .int x3)] [] S R _
      refine u_st1 rfl (fun _ => rfl) (fun m hm => ?_)
      refine u_st rfl (fun _ => rfl) ?_
      show u_P L xs m d m_X12_laysAhead 4 [(0, .ref 100), (1, .int x1), (2, .int x2), (3, .int x3)] [.int x1, .int x3] S R _
      refine u_ic_ge rfl (fun h1 => ?_) (fun h1 => ?_)
      · have hD := hD.1 h1
        show u_P L xs m d m_X12_laysAhead 133 [(0, .ref 100), (1, .int x1), (2, .int x2), (3, .int x3)] [] S R _
        refine u_st rfl (fun _ => rfl) ?_
        show u_P L xs m d m_X12_laysAhead 134 [(0, .ref 100), (1, .int x1), (2, .int x2), (3, .int x3)] [.int (Int32.ofInt 1)] S R _
        exact u_retb rfl rfl ⟨_, rfl, rfl, hD⟩
      · have hD := hD.2 h1
        show u_P L xs m d m_X12_laysAhead 7 [(0, .ref 100), (1, .int x1), (2, .int x2), (3, .int x3)] [] S R _
        refine u_st rfl (fun _ => rfl) ?_
        show u_P L xs m d m_X12_laysAhead 8 [(0, .ref 100), (1, .int x1), (2, .int x2), (3, .int x3)] [.int x3] S R _
        refine u_if_ne rfl (fun h2 => ?_) (fun h2 => ?_)
        · have hD := hD.1 h2
          show u_P L xs m d m_X12_laysAhead 17 [(0, .ref 100), (1, .int x1), (2, .int x2), (3, .int x3)] [] S R _
          refine u_st rfl (fun _ => rfl) ?_
          refine u_st rfl (fun _ => rfl) ?_
          refine u_st rfl (fun _ => rfl) ?_
          show u_P L xs m d m_X12_laysAhead 20 [(0, .ref 100), (1, .int x1), (2, .int x2), (3, .int x3)] [.int x3, .ref 100, .int x2] S R _
          refine u_cv (rest := [.int x2]) rfl (by decide) mt_X12_hourOf v_tyM rfl rfl rfl (Nat.le_of_ble_eq_true rfl) (Nat.le_of_ble_eq_true rfl) (Nat.le_of_ble_eq_true rfl) (fun d' => c_X12_hourOf L xs m d' x3 S R) ?_
          rintro _ _ _ ⟨_, rfl, rfl, rfl, rfl⟩
          refine u_st rfl (fun _ => rfl) ?_
          refine u_st rfl (fun _ => rfl) ?_
          refine u_st rfl (fun _ => rfl) ?_
          refine u_st rfl (fun _ => rfl) ?_
          show u_P L xs m d m_X12_laysAhead 27 [(0, .ref 100), (1, .int x1), (2, .int x2), (3, .int x3)] [.int (x3 - (Int32.ofInt 1)), .ref 100, .int (f_X12_hourOf x3 S), .int x2] S R _
          refine u_cv (rest := [.int (f_X12_hourOf x3 S), .int x2]) rfl (by decide) mt_X12_hourOf v_tyM rfl rfl rfl (Nat.le_of_ble_eq_true rfl) (Nat.le_of_ble_eq_true rfl) (Nat.le_of_ble_eq_true rfl) (fun d' => c_X12_hourOf L xs m d' (x3 - (Int32.ofInt 1)) S R) ?_
          rintro _ _ _ ⟨_, rfl, rfl, rfl, rfl⟩
          refine u_st rfl (fun _ => rfl) ?_
          refine u_st rfl (fun _ => rfl) ?_
          refine u_st rfl (fun _ => rfl) ?_
          refine u_st rfl (fun _ => rfl) ?_
          show u_P L xs m d m_X12_laysAhead 35 [(4, .int (x2 * ((f_X12_hourOf x3 S) - (f_X12_hourOf (x3 - (Int32.ofInt 1)) S)))), (0, .ref 100), (1, .int x1), (2, .int x2), (3, .int x3)] [.ref 100] S R _
          refine u_getr rfl v_tyM rfl ?_
          refine u_st rfl (fun _ => rfl) ?_
          refine u_st rfl (fun _ => rfl) ?_
          refine u_st rfl (fun _ => rfl) ?_
          refine u_st rfl (fun _ => rfl) ?_
          refine u_st rfl (fun _ => rfl) ?_
          refine u_st rfl (fun _ => rfl) ?_
          refine u_st rfl (fun _ => rfl) ?_
          show u_P L xs m d m_X12_laysAhead 45 [(4, .int (x2 * ((f_X12_hourOf x3 S) - (f_X12_hourOf (x3 - (Int32.ofInt 1)) S)))), (0, .ref 100), (1, .int x1), (2, .int x2), (3, .int x3)] [.int (((Int32.ofInt 3) * x3) + (Int32.ofInt 1)), .ref 100, .int x3, .ref 168] S R _
          refine u_cv (rest := [.int x3, .ref 168]) rfl (by decide) mt_X12_byteAt v_tyM rfl rfl rfl (Nat.le_of_ble_eq_true rfl) (Nat.le_of_ble_eq_true rfl) (Nat.le_of_ble_eq_true rfl) (fun d' => c_X12_byteAt L xs m d' (((Int32.ofInt 3) * x3) + (Int32.ofInt 1)) S R) ?_
          rintro _ _ _ ⟨_, rfl, rfl, rfl, rfl⟩
          refine u_st rfl (fun _ => rfl) ?_
          show u_P L xs m d m_X12_laysAhead 49 [(4, .int (x2 * ((f_X12_hourOf x3 S) - (f_X12_hourOf (x3 - (Int32.ofInt 1)) S)))), (0, .ref 100), (1, .int x1), (2, .int x2), (3, .int x3)] [.int x3, .int (f_X12_byteAt (((Int32.ofInt 3) * x3) + (Int32.ofInt 1)) S), .int x3, .ref 168] S R _
          refine u_if_ne rfl (fun _ => ?_) (fun h3 => absurd h2 h3)
          show u_P L xs m d m_X12_laysAhead 56 [(4, .int (x2 * ((f_X12_hourOf x3 S) - (f_X12_hourOf (x3 - (Int32.ofInt 1)) S)))), (0, .ref 100), (1, .int x1), (2, .int x2), (3, .int x3)] [.int (f_X12_byteAt (((Int32.ofInt 3) * x3) + (Int32.ofInt 1)) S), .int x3, .ref 168] S R _
          refine u_st rfl (fun _ => rfl) ?_
          show u_P L xs m d m_X12_laysAhead 57 [(4, .int (x2 * ((f_X12_hourOf x3 S) - (f_X12_hourOf (x3 - (Int32.ofInt 1)) S)))), (0, .ref 100), (1, .int x1), (2, .int x2), (3, .int x3)] [.ref 100, .int (f_X12_byteAt (((Int32.ofInt 3) * x3) + (Int32.ofInt 1)) S), .int x3, .ref 168] S R _
          refine u_getr rfl v_tyM rfl ?_
          refine u_st rfl (fun _ => rfl) ?_
          refine u_st rfl (fun _ => rfl) ?_
          refine u_st rfl (fun _ => rfl) ?_
          show u_P L xs m d m_X12_laysAhead 63 [(4, .int (x2 * ((f_X12_hourOf x3 S) - (f_X12_hourOf (x3 - (Int32.ofInt 1)) S)))), (0, .ref 100), (1, .int x1), (2, .int x2), (3, .int x3)] [.int (x3 - (Int32.ofInt 1)), .ref 168, .int (f_X12_byteAt (((Int32.ofInt 3) * x3) + (Int32.ofInt 1)) S), .int x3, .ref 168] S R _
          refine u_ialdE (v := S 167 ((x3 - (Int32.ofInt 1)).toInt.toNat)) rfl rfl rfl (fun b41 b42 => ?_)
          have hD := hD b41 b42
          show u_P L xs m d m_X12_laysAhead 64 [(4, .int (x2 * ((f_X12_hourOf x3 S) - (f_X12_hourOf (x3 - (Int32.ofInt 1)) S)))), (0, .ref 100), (1, .int x1), (2, .int x2), (3, .int x3)] [.int (S 167 ((x3 - (Int32.ofInt 1)).toInt.toNat)), .int (f_X12_byteAt (((Int32.ofInt 3) * x3) + (Int32.ofInt 1)) S), .int x3, .ref 168] S R _
          refine u_st rfl (fun _ => rfl) ?_
          refine u_st rfl (fun _ => rfl) ?_
          show u_P L xs m d m_X12_laysAhead 67 [(4, .int (x2 * ((f_X12_hourOf x3 S) - (f_X12_hourOf (x3 - (Int32.ofInt 1)) S)))), (0, .ref 100), (1, .int x1), (2, .int x2), (3, .int x3)] [.int ((S 167 ((x3 - (Int32.ofInt 1)).toInt.toNat)) - (x2 * ((f_X12_hourOf x3 S) - (f_X12_hourOf (x3 - (Int32.ofInt 1)) S)))), .int (f_X12_byteAt (((Int32.ofInt 3) * x3) + (Int32.ofInt 1)) S), .int x3, .ref 168] S R _
          refine u_cs (ac := [.int (f_X12_byteAt (((Int32.ofInt 3) * x3) + (Int32.ofInt 1)) S), .int ((S 167 ((x3 - (Int32.ofInt 1)).toInt.toNat)) - (x2 * ((f_X12_hourOf x3 S) - (f_X12_hourOf (x3 - (Int32.ofInt 1)) S))))]) (rest := [.int x3, .ref 168]) rfl (by decide) mt_X12_higher (fun _ => rfl) (Nat.le_of_ble_eq_true rfl) (Nat.le_of_ble_eq_true rfl) (fun d' => c_X12_higher L xs m d' (f_X12_byteAt (((Int32.ofInt 3) * x3) + (Int32.ofInt 1)) S) ((S 167 ((x3 - (Int32.ofInt 1)).toInt.toNat)) - (x2 * ((f_X12_hourOf x3 S) - (f_X12_hourOf (x3 - (Int32.ofInt 1)) S)))) S R) ?_
          rintro _ _ _ ⟨_, rfl, rfl, rfl, rfl⟩
          show u_P L xs m d m_X12_laysAhead 70 [(4, .int (x2 * ((f_X12_hourOf x3 S) - (f_X12_hourOf (x3 - (Int32.ofInt 1)) S)))), (0, .ref 100), (1, .int x1), (2, .int x2), (3, .int x3)] [.int (f_X12_higher (f_X12_byteAt (((Int32.ofInt 3) * x3) + (Int32.ofInt 1)) S) ((S 167 ((x3 - (Int32.ofInt 1)).toInt.toNat)) - (x2 * ((f_X12_hourOf x3 S) - (f_X12_hourOf (x3 - (Int32.ofInt 1)) S))))), .int x3, .ref 168] S R _
          refine u_iast rfl rfl (fun b51 b52 => ?_)
          have hD := hD b51 b52
          show u_P L xs m d m_X12_laysAhead 71 [(4, .int (x2 * ((f_X12_hourOf x3 S) - (f_X12_hourOf (x3 - (Int32.ofInt 1)) S)))), (0, .ref 100), (1, .int x1), (2, .int x2), (3, .int x3)] [] (z_s S 167 x3.toInt.toNat (f_X12_higher (f_X12_byteAt (((Int32.ofInt 3) * x3) + (Int32.ofInt 1)) S) ((S 167 ((x3 - (Int32.ofInt 1)).toInt.toNat)) - (x2 * ((f_X12_hourOf x3 S) - (f_X12_hourOf (x3 - (Int32.ofInt 1)) S)))))) R _
          refine u_st rfl (fun _ => rfl) ?_
          show u_P L xs m d m_X12_laysAhead 72 [(4, .int (x2 * ((f_X12_hourOf x3 S) - (f_X12_hourOf (x3 - (Int32.ofInt 1)) S)))), (0, .ref 100), (1, .int x1), (2, .int x2), (3, .int x3)] [.ref 100] (z_s S 167 x3.toInt.toNat (f_X12_higher (f_X12_byteAt (((Int32.ofInt 3) * x3) + (Int32.ofInt 1)) S) ((S 167 ((x3 - (Int32.ofInt 1)).toInt.toNat)) - (x2 * ((f_X12_hourOf x3 S) - (f_X12_hourOf (x3 - (Int32.ofInt 1)) S)))))) R _
          refine u_getr rfl v_tyM rfl ?_
          refine u_st rfl (fun _ => rfl) ?_
          refine u_st rfl (fun _ => rfl) ?_
          refine u_st rfl (fun _ => rfl) ?_
          refine u_st rfl (fun _ => rfl) ?_
          refine u_st rfl (fun _ => rfl) ?_
          refine u_st rfl (fun _ => rfl) ?_
          refine u_st rfl (fun _ => rfl) ?_
          show u_P L xs m d m_X12_laysAhead 82 [(4, .int (x2 * ((f_X12_hourOf x3 S) - (f_X12_hourOf (x3 - (Int32.ofInt 1)) S)))), (0, .ref 100), (1, .int x1), (2, .int x2), (3, .int x3)] [.int (((Int32.ofInt 3) * x3) + (Int32.ofInt 2)), .ref 100, .int x3, .ref 169] (z_s S 167 x3.toInt.toNat (f_X12_higher (f_X12_byteAt (((Int32.ofInt 3) * x3) + (Int32.ofInt 1)) S) ((S 167 ((x3 - (Int32.ofInt 1)).toInt.toNat)) - (x2 * ((f_X12_hourOf x3 S) - (f_X12_hourOf (x3 - (Int32.ofInt 1)) S)))))) R _
          refine u_cv (rest := [.int x3, .ref 169]) rfl (by decide) mt_X12_byteAt v_tyM rfl rfl rfl (Nat.le_of_ble_eq_true rfl) (Nat.le_of_ble_eq_true rfl) (Nat.le_of_ble_eq_true rfl) (fun d' => c_X12_byteAt L xs m d' (((Int32.ofInt 3) * x3) + (Int32.ofInt 2)) (z_s S 167 x3.toInt.toNat (f_X12_higher (f_X12_byteAt (((Int32.ofInt 3) * x3) + (Int32.ofInt 1)) S) ((S 167 ((x3 - (Int32.ofInt 1)).toInt.toNat)) - (x2 * ((f_X12_hourOf x3 S) - (f_X12_hourOf (x3 - (Int32.ofInt 1)) S)))))) R) ?_
          rintro _ _ _ ⟨_, rfl, rfl, rfl, rfl⟩
          refine u_st rfl (fun _ => rfl) ?_
          show u_P L xs m d m_X12_laysAhead 86 [(4, .int (x2 * ((f_X12_hourOf x3 S) - (f_X12_hourOf (x3 - (Int32.ofInt 1)) S)))), (0, .ref 100), (1, .int x1), (2, .int x2), (3, .int x3)] [.int x3, .int (f_X12_byteAt (((Int32.ofInt 3) * x3) + (Int32.ofInt 2)) (z_s S 167 x3.toInt.toNat (f_X12_higher (f_X12_byteAt (((Int32.ofInt 3) * x3) + (Int32.ofInt 1)) S) ((S 167 ((x3 - (Int32.ofInt 1)).toInt.toNat)) - (x2 * ((f_X12_hourOf x3 S) - (f_X12_hourOf (x3 - (Int32.ofInt 1)) S))))))), .int x3, .ref 169] (z_s S 167 x3.toInt.toNat (f_X12_higher (f_X12_byteAt (((Int32.ofInt 3) * x3) + (Int32.ofInt 1)) S) ((S 167 ((x3 - (Int32.ofInt 1)).toInt.toNat)) - (x2 * ((f_X12_hourOf x3 S) - (f_X12_hourOf (x3 - (Int32.ofInt 1)) S)))))) R _
          refine u_if_ne rfl (fun _ => ?_) (fun h6 => absurd h2 h6)
          show u_P L xs m d m_X12_laysAhead 95 [(4, .int (x2 * ((f_X12_hourOf x3 S) - (f_X12_hourOf (x3 - (Int32.ofInt 1)) S)))), (0, .ref 100), (1, .int x1), (2, .int x2), (3, .int x3)] [.int (f_X12_byteAt (((Int32.ofInt 3) * x3) + (Int32.ofInt 2)) (z_s S 167 x3.toInt.toNat (f_X12_higher (f_X12_byteAt (((Int32.ofInt 3) * x3) + (Int32.ofInt 1)) S) ((S 167 ((x3 - (Int32.ofInt 1)).toInt.toNat)) - (x2 * ((f_X12_hourOf x3 S) - (f_X12_hourOf (x3 - (Int32.ofInt 1)) S))))))), .int x3, .ref 169] (z_s S 167 x3.toInt.toNat (f_X12_higher (f_X12_byteAt (((Int32.ofInt 3) * x3) + (Int32.ofInt 1)) S) ((S 167 ((x3 - (Int32.ofInt 1)).toInt.toNat)) - (x2 * ((f_X12_hourOf x3 S) - (f_X12_hourOf (x3 - (Int32.ofInt 1)) S)))))) R _
          refine u_st rfl (fun _ => rfl) ?_
          show u_P L xs m d m_X12_laysAhead 96 [(4, .int (x2 * ((f_X12_hourOf x3 S) - (f_X12_hourOf (x3 - (Int32.ofInt 1)) S)))), (0, .ref 100), (1, .int x1), (2, .int x2), (3, .int x3)] [.ref 100, .int (f_X12_byteAt (((Int32.ofInt 3) * x3) + (Int32.ofInt 2)) (z_s S 167 x3.toInt.toNat (f_X12_higher (f_X12_byteAt (((Int32.ofInt 3) * x3) + (Int32.ofInt 1)) S) ((S 167 ((x3 - (Int32.ofInt 1)).toInt.toNat)) - (x2 * ((f_X12_hourOf x3 S) - (f_X12_hourOf (x3 - (Int32.ofInt 1)) S))))))), .int x3, .ref 169] (z_s S 167 x3.toInt.toNat (f_X12_higher (f_X12_byteAt (((Int32.ofInt 3) * x3) + (Int32.ofInt 1)) S) ((S 167 ((x3 - (Int32.ofInt 1)).toInt.toNat)) - (x2 * ((f_X12_hourOf x3 S) - (f_X12_hourOf (x3 - (Int32.ofInt 1)) S)))))) R _
          refine u_getr rfl v_tyM rfl ?_
          refine u_st rfl (fun _ => rfl) ?_
          refine u_st rfl (fun _ => rfl) ?_
          refine u_st rfl (fun _ => rfl) ?_
          show u_P L xs m d m_X12_laysAhead 102 [(4, .int (x2 * ((f_X12_hourOf x3 S) - (f_X12_hourOf (x3 - (Int32.ofInt 1)) S)))), (0, .ref 100), (1, .int x1), (2, .int x2), (3, .int x3)] [.int (x3 - (Int32.ofInt 1)), .ref 169, .int (f_X12_byteAt (((Int32.ofInt 3) * x3) + (Int32.ofInt 2)) (z_s S 167 x3.toInt.toNat (f_X12_higher (f_X12_byteAt (((Int32.ofInt 3) * x3) + (Int32.ofInt 1)) S) ((S 167 ((x3 - (Int32.ofInt 1)).toInt.toNat)) - (x2 * ((f_X12_hourOf x3 S) - (f_X12_hourOf (x3 - (Int32.ofInt 1)) S))))))), .int x3, .ref 169] (z_s S 167 x3.toInt.toNat (f_X12_higher (f_X12_byteAt (((Int32.ofInt 3) * x3) + (Int32.ofInt 1)) S) ((S 167 ((x3 - (Int32.ofInt 1)).toInt.toNat)) - (x2 * ((f_X12_hourOf x3 S) - (f_X12_hourOf (x3 - (Int32.ofInt 1)) S)))))) R _
          refine u_ialdE (v := S 168 ((x3 - (Int32.ofInt 1)).toInt.toNat)) rfl rfl (z_sn (fun h => absurd h.1 (by decide))) (fun b71 b72 => ?_)
          have hD := hD b71 b72
          show u_P L xs m d m_X12_laysAhead 103 [(4, .int (x2 * ((f_X12_hourOf x3 S) - (f_X12_hourOf (x3 - (Int32.ofInt 1)) S)))), (0, .ref 100), (1, .int x1), (2, .int x2), (3, .int x3)] [.int (S 168 ((x3 - (Int32.ofInt 1)).toInt.toNat)), .int (f_X12_byteAt (((Int32.ofInt 3) * x3) + (Int32.ofInt 2)) (z_s S 167 x3.toInt.toNat (f_X12_higher (f_X12_byteAt (((Int32.ofInt 3) * x3) + (Int32.ofInt 1)) S) ((S 167 ((x3 - (Int32.ofInt 1)).toInt.toNat)) - (x2 * ((f_X12_hourOf x3 S) - (f_X12_hourOf (x3 - (Int32.ofInt 1)) S))))))), .int x3, .ref 169] (z_s S 167 x3.toInt.toNat (f_X12_higher (f_X12_byteAt (((Int32.ofInt 3) * x3) + (Int32.ofInt 1)) S) ((S 167 ((x3 - (Int32.ofInt 1)).toInt.toNat)) - (x2 * ((f_X12_hourOf x3 S) - (f_X12_hourOf (x3 - (Int32.ofInt 1)) S)))))) R _
          refine u_st rfl (fun _ => rfl) ?_
          refine u_st rfl (fun _ => rfl) ?_
          show u_P L xs m d m_X12_laysAhead 106 [(4, .int (x2 * ((f_X12_hourOf x3 S) - (f_X12_hourOf (x3 - (Int32.ofInt 1)) S)))), (0, .ref 100), (1, .int x1), (2, .int x2), (3, .int x3)] [.int ((S 168 ((x3 - (Int32.ofInt 1)).toInt.toNat)) + (x2 * ((f_X12_hourOf x3 S) - (f_X12_hourOf (x3 - (Int32.ofInt 1)) S)))), .int (f_X12_byteAt (((Int32.ofInt 3) * x3) + (Int32.ofInt 2)) (z_s S 167 x3.toInt.toNat (f_X12_higher (f_X12_byteAt (((Int32.ofInt 3) * x3) + (Int32.ofInt 1)) S) ((S 167 ((x3 - (Int32.ofInt 1)).toInt.toNat)) - (x2 * ((f_X12_hourOf x3 S) - (f_X12_hourOf (x3 - (Int32.ofInt 1)) S))))))), .int x3, .ref 169] (z_s S 167 x3.toInt.toNat (f_X12_higher (f_X12_byteAt (((Int32.ofInt 3) * x3) + (Int32.ofInt 1)) S) ((S 167 ((x3 - (Int32.ofInt 1)).toInt.toNat)) - (x2 * ((f_X12_hourOf x3 S) - (f_X12_hourOf (x3 - (Int32.ofInt 1)) S)))))) R _
          refine u_cs (ac := [.int (f_X12_byteAt (((Int32.ofInt 3) * x3) + (Int32.ofInt 2)) (z_s S 167 x3.toInt.toNat (f_X12_higher (f_X12_byteAt (((Int32.ofInt 3) * x3) + (Int32.ofInt 1)) S) ((S 167 ((x3 - (Int32.ofInt 1)).toInt.toNat)) - (x2 * ((f_X12_hourOf x3 S) - (f_X12_hourOf (x3 - (Int32.ofInt 1)) S))))))), .int ((S 168 ((x3 - (Int32.ofInt 1)).toInt.toNat)) + (x2 * ((f_X12_hourOf x3 S) - (f_X12_hourOf (x3 - (Int32.ofInt 1)) S))))]) (rest := [.int x3, .ref 169]) rfl (by decide) mt_X12_lower (fun _ => rfl) (Nat.le_of_ble_eq_true rfl) (Nat.le_of_ble_eq_true rfl) (fun d' => c_X12_lower L xs m d' (f_X12_byteAt (((Int32.ofInt 3) * x3) + (Int32.ofInt 2)) (z_s S 167 x3.toInt.toNat (f_X12_higher (f_X12_byteAt (((Int32.ofInt 3) * x3) + (Int32.ofInt 1)) S) ((S 167 ((x3 - (Int32.ofInt 1)).toInt.toNat)) - (x2 * ((f_X12_hourOf x3 S) - (f_X12_hourOf (x3 - (Int32.ofInt 1)) S))))))) ((S 168 ((x3 - (Int32.ofInt 1)).toInt.toNat)) + (x2 * ((f_X12_hourOf x3 S) - (f_X12_hourOf (x3 - (Int32.ofInt 1)) S)))) (z_s S 167 x3.toInt.toNat (f_X12_higher (f_X12_byteAt (((Int32.ofInt 3) * x3) + (Int32.ofInt 1)) S) ((S 167 ((x3 - (Int32.ofInt 1)).toInt.toNat)) - (x2 * ((f_X12_hourOf x3 S) - (f_X12_hourOf (x3 - (Int32.ofInt 1)) S)))))) R) ?_
          rintro _ _ _ ⟨_, rfl, rfl, rfl, rfl⟩
          show u_P L xs m d m_X12_laysAhead 109 [(4, .int (x2 * ((f_X12_hourOf x3 S) - (f_X12_hourOf (x3 - (Int32.ofInt 1)) S)))), (0, .ref 100), (1, .int x1), (2, .int x2), (3, .int x3)] [.int (f_X12_lower (f_X12_byteAt (((Int32.ofInt 3) * x3) + (Int32.ofInt 2)) (z_s S 167 x3.toInt.toNat (f_X12_higher (f_X12_byteAt (((Int32.ofInt 3) * x3) + (Int32.ofInt 1)) S) ((S 167 ((x3 - (Int32.ofInt 1)).toInt.toNat)) - (x2 * ((f_X12_hourOf x3 S) - (f_X12_hourOf (x3 - (Int32.ofInt 1)) S))))))) ((S 168 ((x3 - (Int32.ofInt 1)).toInt.toNat)) + (x2 * ((f_X12_hourOf x3 S) - (f_X12_hourOf (x3 - (Int32.ofInt 1)) S))))), .int x3, .ref 169] (z_s S 167 x3.toInt.toNat (f_X12_higher (f_X12_byteAt (((Int32.ofInt 3) * x3) + (Int32.ofInt 1)) S) ((S 167 ((x3 - (Int32.ofInt 1)).toInt.toNat)) - (x2 * ((f_X12_hourOf x3 S) - (f_X12_hourOf (x3 - (Int32.ofInt 1)) S)))))) R _
          refine u_iast rfl rfl (fun b81 b82 => ?_)
          have hD := hD b81 b82
          show u_P L xs m d m_X12_laysAhead 110 [(4, .int (x2 * ((f_X12_hourOf x3 S) - (f_X12_hourOf (x3 - (Int32.ofInt 1)) S)))), (0, .ref 100), (1, .int x1), (2, .int x2), (3, .int x3)] [] (z_s (z_s S 167 x3.toInt.toNat (f_X12_higher (f_X12_byteAt (((Int32.ofInt 3) * x3) + (Int32.ofInt 1)) S) ((S 167 ((x3 - (Int32.ofInt 1)).toInt.toNat)) - (x2 * ((f_X12_hourOf x3 S) - (f_X12_hourOf (x3 - (Int32.ofInt 1)) S)))))) 168 x3.toInt.toNat (f_X12_lower (f_X12_byteAt (((Int32.ofInt 3) * x3) + (Int32.ofInt 2)) (z_s S 167 x3.toInt.toNat (f_X12_higher (f_X12_byteAt (((Int32.ofInt 3) * x3) + (Int32.ofInt 1)) S) ((S 167 ((x3 - (Int32.ofInt 1)).toInt.toNat)) - (x2 * ((f_X12_hourOf x3 S) - (f_X12_hourOf (x3 - (Int32.ofInt 1)) S))))))) ((S 168 ((x3 - (Int32.ofInt 1)).toInt.toNat)) + (x2 * ((f_X12_hourOf x3 S) - (f_X12_hourOf (x3 - (Int32.ofInt 1)) S)))))) R _
          refine u_st rfl (fun _ => rfl) ?_
          show u_P L xs m d m_X12_laysAhead 111 [(4, .int (x2 * ((f_X12_hourOf x3 S) - (f_X12_hourOf (x3 - (Int32.ofInt 1)) S)))), (0, .ref 100), (1, .int x1), (2, .int x2), (3, .int x3)] [.ref 100] (z_s (z_s S 167 x3.toInt.toNat (f_X12_higher (f_X12_byteAt (((Int32.ofInt 3) * x3) + (Int32.ofInt 1)) S) ((S 167 ((x3 - (Int32.ofInt 1)).toInt.toNat)) - (x2 * ((f_X12_hourOf x3 S) - (f_X12_hourOf (x3 - (Int32.ofInt 1)) S)))))) 168 x3.toInt.toNat (f_X12_lower (f_X12_byteAt (((Int32.ofInt 3) * x3) + (Int32.ofInt 2)) (z_s S 167 x3.toInt.toNat (f_X12_higher (f_X12_byteAt (((Int32.ofInt 3) * x3) + (Int32.ofInt 1)) S) ((S 167 ((x3 - (Int32.ofInt 1)).toInt.toNat)) - (x2 * ((f_X12_hourOf x3 S) - (f_X12_hourOf (x3 - (Int32.ofInt 1)) S))))))) ((S 168 ((x3 - (Int32.ofInt 1)).toInt.toNat)) + (x2 * ((f_X12_hourOf x3 S) - (f_X12_hourOf (x3 - (Int32.ofInt 1)) S)))))) R _
          refine u_getr rfl v_tyM rfl ?_
          refine u_st rfl (fun _ => rfl) ?_
          show u_P L xs m d m_X12_laysAhead 115 [(4, .int (x2 * ((f_X12_hourOf x3 S) - (f_X12_hourOf (x3 - (Int32.ofInt 1)) S)))), (0, .ref 100), (1, .int x1), (2, .int x2), (3, .int x3)] [.int x3, .ref 168] (z_s (z_s S 167 x3.toInt.toNat (f_X12_higher (f_X12_byteAt (((Int32.ofInt 3) * x3) + (Int32.ofInt 1)) S) ((S 167 ((x3 - (Int32.ofInt 1)).toInt.toNat)) - (x2 * ((f_X12_hourOf x3 S) - (f_X12_hourOf (x3 - (Int32.ofInt 1)) S)))))) 168 x3.toInt.toNat (f_X12_lower (f_X12_byteAt (((Int32.ofInt 3) * x3) + (Int32.ofInt 2)) (z_s S 167 x3.toInt.toNat (f_X12_higher (f_X12_byteAt (((Int32.ofInt 3) * x3) + (Int32.ofInt 1)) S) ((S 167 ((x3 - (Int32.ofInt 1)).toInt.toNat)) - (x2 * ((f_X12_hourOf x3 S) - (f_X12_hourOf (x3 - (Int32.ofInt 1)) S))))))) ((S 168 ((x3 - (Int32.ofInt 1)).toInt.toNat)) + (x2 * ((f_X12_hourOf x3 S) - (f_X12_hourOf (x3 - (Int32.ofInt 1)) S)))))) R _
          refine u_ialdE (v := f_X12_higher (f_X12_byteAt (((Int32.ofInt 3) * x3) + (Int32.ofInt 1)) S) ((S 167 ((x3 - (Int32.ofInt 1)).toInt.toNat)) - (x2 * ((f_X12_hourOf x3 S) - (f_X12_hourOf (x3 - (Int32.ofInt 1)) S))))) rfl rfl ((z_sn (fun h => absurd h.1 (by decide))).trans z_ss) (fun b91 b92 => ?_)
          have hD := hD b91 b92
          show u_P L xs m d m_X12_laysAhead 116 [(4, .int (x2 * ((f_X12_hourOf x3 S) - (f_X12_hourOf (x3 - (Int32.ofInt 1)) S)))), (0, .ref 100), (1, .int x1), (2, .int x2), (3, .int x3)] [.int (f_X12_higher (f_X12_byteAt (((Int32.ofInt 3) * x3) + (Int32.ofInt 1)) S) ((S 167 ((x3 - (Int32.ofInt 1)).toInt.toNat)) - (x2 * ((f_X12_hourOf x3 S) - (f_X12_hourOf (x3 - (Int32.ofInt 1)) S)))))] (z_s (z_s S 167 x3.toInt.toNat (f_X12_higher (f_X12_byteAt (((Int32.ofInt 3) * x3) + (Int32.ofInt 1)) S) ((S 167 ((x3 - (Int32.ofInt 1)).toInt.toNat)) - (x2 * ((f_X12_hourOf x3 S) - (f_X12_hourOf (x3 - (Int32.ofInt 1)) S)))))) 168 x3.toInt.toNat (f_X12_lower (f_X12_byteAt (((Int32.ofInt 3) * x3) + (Int32.ofInt 2)) (z_s S 167 x3.toInt.toNat (f_X12_higher (f_X12_byteAt (((Int32.ofInt 3) * x3) + (Int32.ofInt 1)) S) ((S 167 ((x3 - (Int32.ofInt 1)).toInt.toNat)) - (x2 * ((f_X12_hourOf x3 S) - (f_X12_hourOf (x3 - (Int32.ofInt 1)) S))))))) ((S 168 ((x3 - (Int32.ofInt 1)).toInt.toNat)) + (x2 * ((f_X12_hourOf x3 S) - (f_X12_hourOf (x3 - (Int32.ofInt 1)) S)))))) R _
          refine u_st rfl (fun _ => rfl) ?_
          show u_P L xs m d m_X12_laysAhead 117 [(4, .int (x2 * ((f_X12_hourOf x3 S) - (f_X12_hourOf (x3 - (Int32.ofInt 1)) S)))), (0, .ref 100), (1, .int x1), (2, .int x2), (3, .int x3)] [.ref 100, .int (f_X12_higher (f_X12_byteAt (((Int32.ofInt 3) * x3) + (Int32.ofInt 1)) S) ((S 167 ((x3 - (Int32.ofInt 1)).toInt.toNat)) - (x2 * ((f_X12_hourOf x3 S) - (f_X12_hourOf (x3 - (Int32.ofInt 1)) S)))))] (z_s (z_s S 167 x3.toInt.toNat (f_X12_higher (f_X12_byteAt (((Int32.ofInt 3) * x3) + (Int32.ofInt 1)) S) ((S 167 ((x3 - (Int32.ofInt 1)).toInt.toNat)) - (x2 * ((f_X12_hourOf x3 S) - (f_X12_hourOf (x3 - (Int32.ofInt 1)) S)))))) 168 x3.toInt.toNat (f_X12_lower (f_X12_byteAt (((Int32.ofInt 3) * x3) + (Int32.ofInt 2)) (z_s S 167 x3.toInt.toNat (f_X12_higher (f_X12_byteAt (((Int32.ofInt 3) * x3) + (Int32.ofInt 1)) S) ((S 167 ((x3 - (Int32.ofInt 1)).toInt.toNat)) - (x2 * ((f_X12_hourOf x3 S) - (f_X12_hourOf (x3 - (Int32.ofInt 1)) S))))))) ((S 168 ((x3 - (Int32.ofInt 1)).toInt.toNat)) + (x2 * ((f_X12_hourOf x3 S) - (f_X12_hourOf (x3 - (Int32.ofInt 1)) S)))))) R _
          refine u_getr rfl v_tyM rfl ?_
          refine u_st rfl (fun _ => rfl) ?_
          show u_P L xs m d m_X12_laysAhead 121 [(4, .int (x2 * ((f_X12_hourOf x3 S) - (f_X12_hourOf (x3 - (Int32.ofInt 1)) S)))), (0, .ref 100), (1, .int x1), (2, .int x2), (3, .int x3)] [.int x3, .ref 169, .int (f_X12_higher (f_X12_byteAt (((Int32.ofInt 3) * x3) + (Int32.ofInt 1)) S) ((S 167 ((x3 - (Int32.ofInt 1)).toInt.toNat)) - (x2 * ((f_X12_hourOf x3 S) - (f_X12_hourOf (x3 - (Int32.ofInt 1)) S)))))] (z_s (z_s S 167 x3.toInt.toNat (f_X12_higher (f_X12_byteAt (((Int32.ofInt 3) * x3) + (Int32.ofInt 1)) S) ((S 167 ((x3 - (Int32.ofInt 1)).toInt.toNat)) - (x2 * ((f_X12_hourOf x3 S) - (f_X12_hourOf (x3 - (Int32.ofInt 1)) S)))))) 168 x3.toInt.toNat (f_X12_lower (f_X12_byteAt (((Int32.ofInt 3) * x3) + (Int32.ofInt 2)) (z_s S 167 x3.toInt.toNat (f_X12_higher (f_X12_byteAt (((Int32.ofInt 3) * x3) + (Int32.ofInt 1)) S) ((S 167 ((x3 - (Int32.ofInt 1)).toInt.toNat)) - (x2 * ((f_X12_hourOf x3 S) - (f_X12_hourOf (x3 - (Int32.ofInt 1)) S))))))) ((S 168 ((x3 - (Int32.ofInt 1)).toInt.toNat)) + (x2 * ((f_X12_hourOf x3 S) - (f_X12_hourOf (x3 - (Int32.ofInt 1)) S)))))) R _
          refine u_ialdE (v := f_X12_lower (f_X12_byteAt (((Int32.ofInt 3) * x3) + (Int32.ofInt 2)) (z_s S 167 x3.toInt.toNat (f_X12_higher (f_X12_byteAt (((Int32.ofInt 3) * x3) + (Int32.ofInt 1)) S) ((S 167 ((x3 - (Int32.ofInt 1)).toInt.toNat)) - (x2 * ((f_X12_hourOf x3 S) - (f_X12_hourOf (x3 - (Int32.ofInt 1)) S))))))) ((S 168 ((x3 - (Int32.ofInt 1)).toInt.toNat)) + (x2 * ((f_X12_hourOf x3 S) - (f_X12_hourOf (x3 - (Int32.ofInt 1)) S))))) rfl rfl z_ss (fun b101 b102 => ?_)
          have hD := hD b101 b102
          show u_P L xs m d m_X12_laysAhead 122 [(4, .int (x2 * ((f_X12_hourOf x3 S) - (f_X12_hourOf (x3 - (Int32.ofInt 1)) S)))), (0, .ref 100), (1, .int x1), (2, .int x2), (3, .int x3)] [.int (f_X12_lower (f_X12_byteAt (((Int32.ofInt 3) * x3) + (Int32.ofInt 2)) (z_s S 167 x3.toInt.toNat (f_X12_higher (f_X12_byteAt (((Int32.ofInt 3) * x3) + (Int32.ofInt 1)) S) ((S 167 ((x3 - (Int32.ofInt 1)).toInt.toNat)) - (x2 * ((f_X12_hourOf x3 S) - (f_X12_hourOf (x3 - (Int32.ofInt 1)) S))))))) ((S 168 ((x3 - (Int32.ofInt 1)).toInt.toNat)) + (x2 * ((f_X12_hourOf x3 S) - (f_X12_hourOf (x3 - (Int32.ofInt 1)) S))))), .int (f_X12_higher (f_X12_byteAt (((Int32.ofInt 3) * x3) + (Int32.ofInt 1)) S) ((S 167 ((x3 - (Int32.ofInt 1)).toInt.toNat)) - (x2 * ((f_X12_hourOf x3 S) - (f_X12_hourOf (x3 - (Int32.ofInt 1)) S)))))] (z_s (z_s S 167 x3.toInt.toNat (f_X12_higher (f_X12_byteAt (((Int32.ofInt 3) * x3) + (Int32.ofInt 1)) S) ((S 167 ((x3 - (Int32.ofInt 1)).toInt.toNat)) - (x2 * ((f_X12_hourOf x3 S) - (f_X12_hourOf (x3 - (Int32.ofInt 1)) S)))))) 168 x3.toInt.toNat (f_X12_lower (f_X12_byteAt (((Int32.ofInt 3) * x3) + (Int32.ofInt 2)) (z_s S 167 x3.toInt.toNat (f_X12_higher (f_X12_byteAt (((Int32.ofInt 3) * x3) + (Int32.ofInt 1)) S) ((S 167 ((x3 - (Int32.ofInt 1)).toInt.toNat)) - (x2 * ((f_X12_hourOf x3 S) - (f_X12_hourOf (x3 - (Int32.ofInt 1)) S))))))) ((S 168 ((x3 - (Int32.ofInt 1)).toInt.toNat)) + (x2 * ((f_X12_hourOf x3 S) - (f_X12_hourOf (x3 - (Int32.ofInt 1)) S)))))) R _
          refine u_ic_le rfl (fun h11 => ?_) (fun h11 => ?_)
          · have hD := hD.1 h11
            show u_P L xs m d m_X12_laysAhead 127 [(4, .int (x2 * ((f_X12_hourOf x3 S) - (f_X12_hourOf (x3 - (Int32.ofInt 1)) S)))), (0, .ref 100), (1, .int x1), (2, .int x2), (3, .int x3)] [] (z_s (z_s S 167 x3.toInt.toNat (f_X12_higher (f_X12_byteAt (((Int32.ofInt 3) * x3) + (Int32.ofInt 1)) S) ((S 167 ((x3 - (Int32.ofInt 1)).toInt.toNat)) - (x2 * ((f_X12_hourOf x3 S) - (f_X12_hourOf (x3 - (Int32.ofInt 1)) S)))))) 168 x3.toInt.toNat (f_X12_lower (f_X12_byteAt (((Int32.ofInt 3) * x3) + (Int32.ofInt 2)) (z_s S 167 x3.toInt.toNat (f_X12_higher (f_X12_byteAt (((Int32.ofInt 3) * x3) + (Int32.ofInt 1)) S) ((S 167 ((x3 - (Int32.ofInt 1)).toInt.toNat)) - (x2 * ((f_X12_hourOf x3 S) - (f_X12_hourOf (x3 - (Int32.ofInt 1)) S))))))) ((S 168 ((x3 - (Int32.ofInt 1)).toInt.toNat)) + (x2 * ((f_X12_hourOf x3 S) - (f_X12_hourOf (x3 - (Int32.ofInt 1)) S)))))) R _
            refine u_st rfl (fun _ => rfl) ?_
            refine u_st rfl (fun _ => rfl) ?_
            refine u_lc (b := [(0, .ref 100), (1, .int x1), (2, .int x2), (3, .int (x3 + (Int32.ofInt 1))), (4, .int (x2 * ((f_X12_hourOf x3 S) - (f_X12_hourOf (x3 - (Int32.ofInt 1)) S))))]) (show ([3, 4, 0, 1, 2] : List Nat).Nodup by decide) (show ([0, 1, 2, 3, 4] : List Nat).Nodup by decide) (fun i => match i with | 0 => rfl | 1 => rfl | 2 => rfl | 3 => rfl | 4 => rfl | _ + 5 => rfl) ?_
            exact (ih m hm).2 d (x2 * ((f_X12_hourOf x3 S) - (f_X12_hourOf (x3 - (Int32.ofInt 1)) S))) x1 x2 (x3 + (Int32.ofInt 1)) (z_s (z_s S 167 x3.toInt.toNat (f_X12_higher (f_X12_byteAt (((Int32.ofInt 3) * x3) + (Int32.ofInt 1)) S) ((S 167 ((x3 - (Int32.ofInt 1)).toInt.toNat)) - (x2 * ((f_X12_hourOf x3 S) - (f_X12_hourOf (x3 - (Int32.ofInt 1)) S)))))) 168 x3.toInt.toNat (f_X12_lower (f_X12_byteAt (((Int32.ofInt 3) * x3) + (Int32.ofInt 2)) (z_s S 167 x3.toInt.toNat (f_X12_higher (f_X12_byteAt (((Int32.ofInt 3) * x3) + (Int32.ofInt 1)) S) ((S 167 ((x3 - (Int32.ofInt 1)).toInt.toNat)) - (x2 * ((f_X12_hourOf x3 S) - (f_X12_hourOf (x3 - (Int32.ofInt 1)) S))))))) ((S 168 ((x3 - (Int32.ofInt 1)).toInt.toNat)) + (x2 * ((f_X12_hourOf x3 S) - (f_X12_hourOf (x3 - (Int32.ofInt 1)) S)))))) hD
          · have hD := hD.2 h11
            show u_P L xs m d m_X12_laysAhead 125 [(4, .int (x2 * ((f_X12_hourOf x3 S) - (f_X12_hourOf (x3 - (Int32.ofInt 1)) S)))), (0, .ref 100), (1, .int x1), (2, .int x2), (3, .int x3)] [] (z_s (z_s S 167 x3.toInt.toNat (f_X12_higher (f_X12_byteAt (((Int32.ofInt 3) * x3) + (Int32.ofInt 1)) S) ((S 167 ((x3 - (Int32.ofInt 1)).toInt.toNat)) - (x2 * ((f_X12_hourOf x3 S) - (f_X12_hourOf (x3 - (Int32.ofInt 1)) S)))))) 168 x3.toInt.toNat (f_X12_lower (f_X12_byteAt (((Int32.ofInt 3) * x3) + (Int32.ofInt 2)) (z_s S 167 x3.toInt.toNat (f_X12_higher (f_X12_byteAt (((Int32.ofInt 3) * x3) + (Int32.ofInt 1)) S) ((S 167 ((x3 - (Int32.ofInt 1)).toInt.toNat)) - (x2 * ((f_X12_hourOf x3 S) - (f_X12_hourOf (x3 - (Int32.ofInt 1)) S))))))) ((S 168 ((x3 - (Int32.ofInt 1)).toInt.toNat)) + (x2 * ((f_X12_hourOf x3 S) - (f_X12_hourOf (x3 - (Int32.ofInt 1)) S)))))) R _
            refine u_st rfl (fun _ => rfl) ?_
            show u_P L xs m d m_X12_laysAhead 126 [(4, .int (x2 * ((f_X12_hourOf x3 S) - (f_X12_hourOf (x3 - (Int32.ofInt 1)) S)))), (0, .ref 100), (1, .int x1), (2, .int x2), (3, .int x3)] [.int (Int32.ofInt 0)] (z_s (z_s S 167 x3.toInt.toNat (f_X12_higher (f_X12_byteAt (((Int32.ofInt 3) * x3) + (Int32.ofInt 1)) S) ((S 167 ((x3 - (Int32.ofInt 1)).toInt.toNat)) - (x2 * ((f_X12_hourOf x3 S) - (f_X12_hourOf (x3 - (Int32.ofInt 1)) S)))))) 168 x3.toInt.toNat (f_X12_lower (f_X12_byteAt (((Int32.ofInt 3) * x3) + (Int32.ofInt 2)) (z_s S 167 x3.toInt.toNat (f_X12_higher (f_X12_byteAt (((Int32.ofInt 3) * x3) + (Int32.ofInt 1)) S) ((S 167 ((x3 - (Int32.ofInt 1)).toInt.toNat)) - (x2 * ((f_X12_hourOf x3 S) - (f_X12_hourOf (x3 - (Int32.ofInt 1)) S))))))) ((S 168 ((x3 - (Int32.ofInt 1)).toInt.toNat)) + (x2 * ((f_X12_hourOf x3 S) - (f_X12_hourOf (x3 - (Int32.ofInt 1)) S)))))) R _
            exact u_retb rfl rfl ⟨_, rfl, rfl, hD⟩
        · have hD := hD.2 h2
          show u_P L xs m d m_X12_laysAhead 11 [(0, .ref 100), (1, .int x1), (2, .int x2), (3, .int x3)] [] S R _
          refine u_st rfl (fun _ => rfl) ?_
          refine u_st rfl (fun _ => rfl) ?_
          refine u_st rfl (fun _ => rfl) ?_
          refine u_st rfl (fun _ => rfl) ?_
          show u_P L xs m d m_X12_laysAhead 35 [(4, .int (Int32.ofInt 500000000)), (0, .ref 100), (1, .int x1), (2, .int x2), (3, .int x3)] [.ref 100] S R _
          refine u_getr rfl v_tyM rfl ?_
          refine u_st rfl (fun _ => rfl) ?_
          refine u_st rfl (fun _ => rfl) ?_
          refine u_st rfl (fun _ => rfl) ?_
          refine u_st rfl (fun _ => rfl) ?_
          refine u_st rfl (fun _ => rfl) ?_
          refine u_st rfl (fun _ => rfl) ?_
          refine u_st rfl (fun _ => rfl) ?_
          show u_P L xs m d m_X12_laysAhead 45 [(4, .int (Int32.ofInt 500000000)), (0, .ref 100), (1, .int x1), (2, .int x2), (3, .int x3)] [.int (((Int32.ofInt 3) * x3) + (Int32.ofInt 1)), .ref 100, .int x3, .ref 168] S R _
          refine u_cv (rest := [.int x3, .ref 168]) rfl (by decide) mt_X12_byteAt v_tyM rfl rfl rfl (Nat.le_of_ble_eq_true rfl) (Nat.le_of_ble_eq_true rfl) (Nat.le_of_ble_eq_true rfl) (fun d' => c_X12_byteAt L xs m d' (((Int32.ofInt 3) * x3) + (Int32.ofInt 1)) S R) ?_
          rintro _ _ _ ⟨_, rfl, rfl, rfl, rfl⟩
          refine u_st rfl (fun _ => rfl) ?_
          show u_P L xs m d m_X12_laysAhead 49 [(4, .int (Int32.ofInt 500000000)), (0, .ref 100), (1, .int x1), (2, .int x2), (3, .int x3)] [.int x3, .int (f_X12_byteAt (((Int32.ofInt 3) * x3) + (Int32.ofInt 1)) S), .int x3, .ref 168] S R _
          refine u_if_ne rfl (fun h12 => absurd (Classical.not_not.mp h2) h12) (fun _ => ?_)
          show u_P L xs m d m_X12_laysAhead 52 [(4, .int (Int32.ofInt 500000000)), (0, .ref 100), (1, .int x1), (2, .int x2), (3, .int x3)] [.int (f_X12_byteAt (((Int32.ofInt 3) * x3) + (Int32.ofInt 1)) S), .int x3, .ref 168] S R _
          refine u_st rfl (fun _ => rfl) ?_
          refine u_st rfl (fun _ => rfl) ?_
          show u_P L xs m d m_X12_laysAhead 67 [(4, .int (Int32.ofInt 500000000)), (0, .ref 100), (1, .int x1), (2, .int x2), (3, .int x3)] [.int (Int32.ofInt 0), .int (f_X12_byteAt (((Int32.ofInt 3) * x3) + (Int32.ofInt 1)) S), .int x3, .ref 168] S R _
          refine u_cs (ac := [.int (f_X12_byteAt (((Int32.ofInt 3) * x3) + (Int32.ofInt 1)) S), .int (Int32.ofInt 0)]) (rest := [.int x3, .ref 168]) rfl (by decide) mt_X12_higher (fun _ => rfl) (Nat.le_of_ble_eq_true rfl) (Nat.le_of_ble_eq_true rfl) (fun d' => c_X12_higher L xs m d' (f_X12_byteAt (((Int32.ofInt 3) * x3) + (Int32.ofInt 1)) S) (Int32.ofInt 0) S R) ?_
          rintro _ _ _ ⟨_, rfl, rfl, rfl, rfl⟩
          show u_P L xs m d m_X12_laysAhead 70 [(4, .int (Int32.ofInt 500000000)), (0, .ref 100), (1, .int x1), (2, .int x2), (3, .int x3)] [.int (f_X12_higher (f_X12_byteAt (((Int32.ofInt 3) * x3) + (Int32.ofInt 1)) S) (Int32.ofInt 0)), .int x3, .ref 168] S R _
          refine u_iast rfl rfl (fun b131 b132 => ?_)
          have hD := hD b131 b132
          show u_P L xs m d m_X12_laysAhead 71 [(4, .int (Int32.ofInt 500000000)), (0, .ref 100), (1, .int x1), (2, .int x2), (3, .int x3)] [] (z_s S 167 x3.toInt.toNat (f_X12_higher (f_X12_byteAt (((Int32.ofInt 3) * x3) + (Int32.ofInt 1)) S) (Int32.ofInt 0))) R _
          refine u_st rfl (fun _ => rfl) ?_
          show u_P L xs m d m_X12_laysAhead 72 [(4, .int (Int32.ofInt 500000000)), (0, .ref 100), (1, .int x1), (2, .int x2), (3, .int x3)] [.ref 100] (z_s S 167 x3.toInt.toNat (f_X12_higher (f_X12_byteAt (((Int32.ofInt 3) * x3) + (Int32.ofInt 1)) S) (Int32.ofInt 0))) R _
          refine u_getr rfl v_tyM rfl ?_
          refine u_st rfl (fun _ => rfl) ?_
          refine u_st rfl (fun _ => rfl) ?_
          refine u_st rfl (fun _ => rfl) ?_
          refine u_st rfl (fun _ => rfl) ?_
          refine u_st rfl (fun _ => rfl) ?_
          refine u_st rfl (fun _ => rfl) ?_
          refine u_st rfl (fun _ => rfl) ?_
          show u_P L xs m d m_X12_laysAhead 82 [(4, .int (Int32.ofInt 500000000)), (0, .ref 100), (1, .int x1), (2, .int x2), (3, .int x3)] [.int (((Int32.ofInt 3) * x3) + (Int32.ofInt 2)), .ref 100, .int x3, .ref 169] (z_s S 167 x3.toInt.toNat (f_X12_higher (f_X12_byteAt (((Int32.ofInt 3) * x3) + (Int32.ofInt 1)) S) (Int32.ofInt 0))) R _
          refine u_cv (rest := [.int x3, .ref 169]) rfl (by decide) mt_X12_byteAt v_tyM rfl rfl rfl (Nat.le_of_ble_eq_true rfl) (Nat.le_of_ble_eq_true rfl) (Nat.le_of_ble_eq_true rfl) (fun d' => c_X12_byteAt L xs m d' (((Int32.ofInt 3) * x3) + (Int32.ofInt 2)) (z_s S 167 x3.toInt.toNat (f_X12_higher (f_X12_byteAt (((Int32.ofInt 3) * x3) + (Int32.ofInt 1)) S) (Int32.ofInt 0))) R) ?_
          rintro _ _ _ ⟨_, rfl, rfl, rfl, rfl⟩
          refine u_st rfl (fun _ => rfl) ?_
          show u_P L xs m d m_X12_laysAhead 86 [(4, .int (Int32.ofInt 500000000)), (0, .ref 100), (1, .int x1), (2, .int x2), (3, .int x3)] [.int x3, .int (f_X12_byteAt (((Int32.ofInt 3) * x3) + (Int32.ofInt 2)) (z_s S 167 x3.toInt.toNat (f_X12_higher (f_X12_byteAt (((Int32.ofInt 3) * x3) + (Int32.ofInt 1)) S) (Int32.ofInt 0)))), .int x3, .ref 169] (z_s S 167 x3.toInt.toNat (f_X12_higher (f_X12_byteAt (((Int32.ofInt 3) * x3) + (Int32.ofInt 1)) S) (Int32.ofInt 0))) R _
          refine u_if_ne rfl (fun h14 => absurd (Classical.not_not.mp h2) h14) (fun _ => ?_)
          show u_P L xs m d m_X12_laysAhead 89 [(4, .int (Int32.ofInt 500000000)), (0, .ref 100), (1, .int x1), (2, .int x2), (3, .int x3)] [.int (f_X12_byteAt (((Int32.ofInt 3) * x3) + (Int32.ofInt 2)) (z_s S 167 x3.toInt.toNat (f_X12_higher (f_X12_byteAt (((Int32.ofInt 3) * x3) + (Int32.ofInt 1)) S) (Int32.ofInt 0)))), .int x3, .ref 169] (z_s S 167 x3.toInt.toNat (f_X12_higher (f_X12_byteAt (((Int32.ofInt 3) * x3) + (Int32.ofInt 1)) S) (Int32.ofInt 0))) R _
          refine u_st rfl (fun _ => rfl) ?_
          refine u_st rfl (fun _ => rfl) ?_
          show u_P L xs m d m_X12_laysAhead 106 [(4, .int (Int32.ofInt 500000000)), (0, .ref 100), (1, .int x1), (2, .int x2), (3, .int x3)] [.int (Int32.ofInt 250), .int (f_X12_byteAt (((Int32.ofInt 3) * x3) + (Int32.ofInt 2)) (z_s S 167 x3.toInt.toNat (f_X12_higher (f_X12_byteAt (((Int32.ofInt 3) * x3) + (Int32.ofInt 1)) S) (Int32.ofInt 0)))), .int x3, .ref 169] (z_s S 167 x3.toInt.toNat (f_X12_higher (f_X12_byteAt (((Int32.ofInt 3) * x3) + (Int32.ofInt 1)) S) (Int32.ofInt 0))) R _
          refine u_cs (ac := [.int (f_X12_byteAt (((Int32.ofInt 3) * x3) + (Int32.ofInt 2)) (z_s S 167 x3.toInt.toNat (f_X12_higher (f_X12_byteAt (((Int32.ofInt 3) * x3) + (Int32.ofInt 1)) S) (Int32.ofInt 0)))), .int (Int32.ofInt 250)]) (rest := [.int x3, .ref 169]) rfl (by decide) mt_X12_lower (fun _ => rfl) (Nat.le_of_ble_eq_true rfl) (Nat.le_of_ble_eq_true rfl) (fun d' => c_X12_lower L xs m d' (f_X12_byteAt (((Int32.ofInt 3) * x3) + (Int32.ofInt 2)) (z_s S 167 x3.toInt.toNat (f_X12_higher (f_X12_byteAt (((Int32.ofInt 3) * x3) + (Int32.ofInt 1)) S) (Int32.ofInt 0)))) (Int32.ofInt 250) (z_s S 167 x3.toInt.toNat (f_X12_higher (f_X12_byteAt (((Int32.ofInt 3) * x3) + (Int32.ofInt 1)) S) (Int32.ofInt 0))) R) ?_
          rintro _ _ _ ⟨_, rfl, rfl, rfl, rfl⟩
          show u_P L xs m d m_X12_laysAhead 109 [(4, .int (Int32.ofInt 500000000)), (0, .ref 100), (1, .int x1), (2, .int x2), (3, .int x3)] [.int (f_X12_lower (f_X12_byteAt (((Int32.ofInt 3) * x3) + (Int32.ofInt 2)) (z_s S 167 x3.toInt.toNat (f_X12_higher (f_X12_byteAt (((Int32.ofInt 3) * x3) + (Int32.ofInt 1)) S) (Int32.ofInt 0)))) (Int32.ofInt 250)), .int x3, .ref 169] (z_s S 167 x3.toInt.toNat (f_X12_higher (f_X12_byteAt (((Int32.ofInt 3) * x3) + (Int32.ofInt 1)) S) (Int32.ofInt 0))) R _
          refine u_iast rfl rfl (fun b151 b152 => ?_)
          have hD := hD b151 b152
          show u_P L xs m d m_X12_laysAhead 110 [(4, .int (Int32.ofInt 500000000)), (0, .ref 100), (1, .int x1), (2, .int x2), (3, .int x3)] [] (z_s (z_s S 167 x3.toInt.toNat (f_X12_higher (f_X12_byteAt (((Int32.ofInt 3) * x3) + (Int32.ofInt 1)) S) (Int32.ofInt 0))) 168 x3.toInt.toNat (f_X12_lower (f_X12_byteAt (((Int32.ofInt 3) * x3) + (Int32.ofInt 2)) (z_s S 167 x3.toInt.toNat (f_X12_higher (f_X12_byteAt (((Int32.ofInt 3) * x3) + (Int32.ofInt 1)) S) (Int32.ofInt 0)))) (Int32.ofInt 250))) R _
          refine u_st rfl (fun _ => rfl) ?_
          show u_P L xs m d m_X12_laysAhead 111 [(4, .int (Int32.ofInt 500000000)), (0, .ref 100), (1, .int x1), (2, .int x2), (3, .int x3)] [.ref 100] (z_s (z_s S 167 x3.toInt.toNat (f_X12_higher (f_X12_byteAt (((Int32.ofInt 3) * x3) + (Int32.ofInt 1)) S) (Int32.ofInt 0))) 168 x3.toInt.toNat (f_X12_lower (f_X12_byteAt (((Int32.ofInt 3) * x3) + (Int32.ofInt 2)) (z_s S 167 x3.toInt.toNat (f_X12_higher (f_X12_byteAt (((Int32.ofInt 3) * x3) + (Int32.ofInt 1)) S) (Int32.ofInt 0)))) (Int32.ofInt 250))) R _
          refine u_getr rfl v_tyM rfl ?_
          refine u_st rfl (fun _ => rfl) ?_
          show u_P L xs m d m_X12_laysAhead 115 [(4, .int (Int32.ofInt 500000000)), (0, .ref 100), (1, .int x1), (2, .int x2), (3, .int x3)] [.int x3, .ref 168] (z_s (z_s S 167 x3.toInt.toNat (f_X12_higher (f_X12_byteAt (((Int32.ofInt 3) * x3) + (Int32.ofInt 1)) S) (Int32.ofInt 0))) 168 x3.toInt.toNat (f_X12_lower (f_X12_byteAt (((Int32.ofInt 3) * x3) + (Int32.ofInt 2)) (z_s S 167 x3.toInt.toNat (f_X12_higher (f_X12_byteAt (((Int32.ofInt 3) * x3) + (Int32.ofInt 1)) S) (Int32.ofInt 0)))) (Int32.ofInt 250))) R _
          refine u_ialdE (v := f_X12_higher (f_X12_byteAt (((Int32.ofInt 3) * x3) + (Int32.ofInt 1)) S) (Int32.ofInt 0)) rfl rfl ((z_sn (fun h => absurd h.1 (by decide))).trans z_ss) (fun b161 b162 => ?_)
          have hD := hD b161 b162
          show u_P L xs m d m_X12_laysAhead 116 [(4, .int (Int32.ofInt 500000000)), (0, .ref 100), (1, .int x1), (2, .int x2), (3, .int x3)] [.int (f_X12_higher (f_X12_byteAt (((Int32.ofInt 3) * x3) + (Int32.ofInt 1)) S) (Int32.ofInt 0))] (z_s (z_s S 167 x3.toInt.toNat (f_X12_higher (f_X12_byteAt (((Int32.ofInt 3) * x3) + (Int32.ofInt 1)) S) (Int32.ofInt 0))) 168 x3.toInt.toNat (f_X12_lower (f_X12_byteAt (((Int32.ofInt 3) * x3) + (Int32.ofInt 2)) (z_s S 167 x3.toInt.toNat (f_X12_higher (f_X12_byteAt (((Int32.ofInt 3) * x3) + (Int32.ofInt 1)) S) (Int32.ofInt 0)))) (Int32.ofInt 250))) R _
          refine u_st rfl (fun _ => rfl) ?_
          show u_P L xs m d m_X12_laysAhead 117 [(4, .int (Int32.ofInt 500000000)), (0, .ref 100), (1, .int x1), (2, .int x2), (3, .int x3)] [.ref 100, .int (f_X12_higher (f_X12_byteAt (((Int32.ofInt 3) * x3) + (Int32.ofInt 1)) S) (Int32.ofInt 0))] (z_s (z_s S 167 x3.toInt.toNat (f_X12_higher (f_X12_byteAt (((Int32.ofInt 3) * x3) + (Int32.ofInt 1)) S) (Int32.ofInt 0))) 168 x3.toInt.toNat (f_X12_lower (f_X12_byteAt (((Int32.ofInt 3) * x3) + (Int32.ofInt 2)) (z_s S 167 x3.toInt.toNat (f_X12_higher (f_X12_byteAt (((Int32.ofInt 3) * x3) + (Int32.ofInt 1)) S) (Int32.ofInt 0)))) (Int32.ofInt 250))) R _
          refine u_getr rfl v_tyM rfl ?_
          refine u_st rfl (fun _ => rfl) ?_
          show u_P L xs m d m_X12_laysAhead 121 [(4, .int (Int32.ofInt 500000000)), (0, .ref 100), (1, .int x1), (2, .int x2), (3, .int x3)] [.int x3, .ref 169, .int (f_X12_higher (f_X12_byteAt (((Int32.ofInt 3) * x3) + (Int32.ofInt 1)) S) (Int32.ofInt 0))] (z_s (z_s S 167 x3.toInt.toNat (f_X12_higher (f_X12_byteAt (((Int32.ofInt 3) * x3) + (Int32.ofInt 1)) S) (Int32.ofInt 0))) 168 x3.toInt.toNat (f_X12_lower (f_X12_byteAt (((Int32.ofInt 3) * x3) + (Int32.ofInt 2)) (z_s S 167 x3.toInt.toNat (f_X12_higher (f_X12_byteAt (((Int32.ofInt 3) * x3) + (Int32.ofInt 1)) S) (Int32.ofInt 0)))) (Int32.ofInt 250))) R _
          refine u_ialdE (v := f_X12_lower (f_X12_byteAt (((Int32.ofInt 3) * x3) + (Int32.ofInt 2)) (z_s S 167 x3.toInt.toNat (f_X12_higher (f_X12_byteAt (((Int32.ofInt 3) * x3) + (Int32.ofInt 1)) S) (Int32.ofInt 0)))) (Int32.ofInt 250)) rfl rfl z_ss (fun b171 b172 => ?_)
          have hD := hD b171 b172
          show u_P L xs m d m_X12_laysAhead 122 [(4, .int (Int32.ofInt 500000000)), (0, .ref 100), (1, .int x1), (2, .int x2), (3, .int x3)] [.int (f_X12_lower (f_X12_byteAt (((Int32.ofInt 3) * x3) + (Int32.ofInt 2)) (z_s S 167 x3.toInt.toNat (f_X12_higher (f_X12_byteAt (((Int32.ofInt 3) * x3) + (Int32.ofInt 1)) S) (Int32.ofInt 0)))) (Int32.ofInt 250)), .int (f_X12_higher (f_X12_byteAt (((Int32.ofInt 3) * x3) + (Int32.ofInt 1)) S) (Int32.ofInt 0))] (z_s (z_s S 167 x3.toInt.toNat (f_X12_higher (f_X12_byteAt (((Int32.ofInt 3) * x3) + (Int32.ofInt 1)) S) (Int32.ofInt 0))) 168 x3.toInt.toNat (f_X12_lower (f_X12_byteAt (((Int32.ofInt 3) * x3) + (Int32.ofInt 2)) (z_s S 167 x3.toInt.toNat (f_X12_higher (f_X12_byteAt (((Int32.ofInt 3) * x3) + (Int32.ofInt 1)) S) (Int32.ofInt 0)))) (Int32.ofInt 250))) R _
          refine u_ic_le rfl (fun h18 => ?_) (fun h18 => ?_)
          · have hD := hD.1 h18
            show u_P L xs m d m_X12_laysAhead 127 [(4, .int (Int32.ofInt 500000000)), (0, .ref 100), (1, .int x1), (2, .int x2), (3, .int x3)] [] (z_s (z_s S 167 x3.toInt.toNat (f_X12_higher (f_X12_byteAt (((Int32.ofInt 3) * x3) + (Int32.ofInt 1)) S) (Int32.ofInt 0))) 168 x3.toInt.toNat (f_X12_lower (f_X12_byteAt (((Int32.ofInt 3) * x3) + (Int32.ofInt 2)) (z_s S 167 x3.toInt.toNat (f_X12_higher (f_X12_byteAt (((Int32.ofInt 3) * x3) + (Int32.ofInt 1)) S) (Int32.ofInt 0)))) (Int32.ofInt 250))) R _
            refine u_st rfl (fun _ => rfl) ?_
            refine u_st rfl (fun _ => rfl) ?_
            refine u_lc (b := [(0, .ref 100), (1, .int x1), (2, .int x2), (3, .int (x3 + (Int32.ofInt 1))), (4, .int (Int32.ofInt 500000000))]) (show ([3, 4, 0, 1, 2] : List Nat).Nodup by decide) (show ([0, 1, 2, 3, 4] : List Nat).Nodup by decide) (fun i => match i with | 0 => rfl | 1 => rfl | 2 => rfl | 3 => rfl | 4 => rfl | _ + 5 => rfl) ?_
            exact (ih m hm).2 d (Int32.ofInt 500000000) x1 x2 (x3 + (Int32.ofInt 1)) (z_s (z_s S 167 x3.toInt.toNat (f_X12_higher (f_X12_byteAt (((Int32.ofInt 3) * x3) + (Int32.ofInt 1)) S) (Int32.ofInt 0))) 168 x3.toInt.toNat (f_X12_lower (f_X12_byteAt (((Int32.ofInt 3) * x3) + (Int32.ofInt 2)) (z_s S 167 x3.toInt.toNat (f_X12_higher (f_X12_byteAt (((Int32.ofInt 3) * x3) + (Int32.ofInt 1)) S) (Int32.ofInt 0)))) (Int32.ofInt 250))) hD
          · have hD := hD.2 h18
            show u_P L xs m d m_X12_laysAhead 125 [(4, .int (Int32.ofInt 500000000)), (0, .ref 100), (1, .int x1), (2, .int x2), (3, .int x3)] [] (z_s (z_s S 167 x3.toInt.toNat (f_X12_higher (f_X12_byteAt (((Int32.ofInt 3) * x3) + (Int32.ofInt 1)) S) (Int32.ofInt 0))) 168 x3.toInt.toNat (f_X12_lower (f_X12_byteAt (((Int32.ofInt 3) * x3) + (Int32.ofInt 2)) (z_s S 167 x3.toInt.toNat (f_X12_higher (f_X12_byteAt (((Int32.ofInt 3) * x3) + (Int32.ofInt 1)) S) (Int32.ofInt 0)))) (Int32.ofInt 250))) R _
            refine u_st rfl (fun _ => rfl) ?_
            show u_P L xs m d m_X12_laysAhead 126 [(4, .int (Int32.ofInt 500000000)), (0, .ref 100), (1, .int x1), (2, .int x2), (3, .int x3)] [.int (Int32.ofInt 0)] (z_s (z_s S 167 x3.toInt.toNat (f_X12_higher (f_X12_byteAt (((Int32.ofInt 3) * x3) + (Int32.ofInt 1)) S) (Int32.ofInt 0))) 168 x3.toInt.toNat (f_X12_lower (f_X12_byteAt (((Int32.ofInt 3) * x3) + (Int32.ofInt 2)) (z_s S 167 x3.toInt.toNat (f_X12_higher (f_X12_byteAt (((Int32.ofInt 3) * x3) + (Int32.ofInt 1)) S) (Int32.ofInt 0)))) (Int32.ofInt 250))) R _
            exact u_retb rfl rfl ⟨_, rfl, rfl, hD⟩
    · intro d j4 x1 x2 x3 S hD
      have hD := k2 x1 x2 x3 S hD
      unfold D_X12_laysAhead_2 at hD
      show u_P L xs n d m_X12_laysAhead 2 [(0, .ref 100), (1, .int x1), (2, .int x2), (3, .int x3), (4, .int j4)] [] S R _
      refine u_st1 rfl (fun _ => rfl) (fun m hm => ?_)
      refine u_st rfl (fun _ => rfl) ?_
      show u_P L xs m d m_X12_laysAhead 4 [(0, .ref 100), (1, .int x1), (2, .int x2), (3, .int x3), (4, .int j4)] [.int x1, .int x3] S R _
      refine u_ic_ge rfl (fun h1 => ?_) (fun h1 => ?_)
      · have hD := hD.1 h1
        show u_P L xs m d m_X12_laysAhead 133 [(0, .ref 100), (1, .int x1), (2, .int x2), (3, .int x3), (4, .int j4)] [] S R _
        refine u_st rfl (fun _ => rfl) ?_
        show u_P L xs m d m_X12_laysAhead 134 [(0, .ref 100), (1, .int x1), (2, .int x2), (3, .int x3), (4, .int j4)] [.int (Int32.ofInt 1)] S R _
        exact u_retb rfl rfl ⟨_, rfl, rfl, hD⟩
      · have hD := hD.2 h1
        show u_P L xs m d m_X12_laysAhead 7 [(0, .ref 100), (1, .int x1), (2, .int x2), (3, .int x3), (4, .int j4)] [] S R _
        refine u_st rfl (fun _ => rfl) ?_
        show u_P L xs m d m_X12_laysAhead 8 [(0, .ref 100), (1, .int x1), (2, .int x2), (3, .int x3), (4, .int j4)] [.int x3] S R _
        refine u_if_ne rfl (fun h2 => ?_) (fun h2 => ?_)
        · have hD := hD.1 h2
          show u_P L xs m d m_X12_laysAhead 17 [(0, .ref 100), (1, .int x1), (2, .int x2), (3, .int x3), (4, .int j4)] [] S R _
          refine u_st rfl (fun _ => rfl) ?_
          refine u_st rfl (fun _ => rfl) ?_
          refine u_st rfl (fun _ => rfl) ?_
          show u_P L xs m d m_X12_laysAhead 20 [(0, .ref 100), (1, .int x1), (2, .int x2), (3, .int x3), (4, .int j4)] [.int x3, .ref 100, .int x2] S R _
          refine u_cv (rest := [.int x2]) rfl (by decide) mt_X12_hourOf v_tyM rfl rfl rfl (Nat.le_of_ble_eq_true rfl) (Nat.le_of_ble_eq_true rfl) (Nat.le_of_ble_eq_true rfl) (fun d' => c_X12_hourOf L xs m d' x3 S R) ?_
          rintro _ _ _ ⟨_, rfl, rfl, rfl, rfl⟩
          refine u_st rfl (fun _ => rfl) ?_
          refine u_st rfl (fun _ => rfl) ?_
          refine u_st rfl (fun _ => rfl) ?_
          refine u_st rfl (fun _ => rfl) ?_
          show u_P L xs m d m_X12_laysAhead 27 [(0, .ref 100), (1, .int x1), (2, .int x2), (3, .int x3), (4, .int j4)] [.int (x3 - (Int32.ofInt 1)), .ref 100, .int (f_X12_hourOf x3 S), .int x2] S R _
          refine u_cv (rest := [.int (f_X12_hourOf x3 S), .int x2]) rfl (by decide) mt_X12_hourOf v_tyM rfl rfl rfl (Nat.le_of_ble_eq_true rfl) (Nat.le_of_ble_eq_true rfl) (Nat.le_of_ble_eq_true rfl) (fun d' => c_X12_hourOf L xs m d' (x3 - (Int32.ofInt 1)) S R) ?_
          rintro _ _ _ ⟨_, rfl, rfl, rfl, rfl⟩
          refine u_st rfl (fun _ => rfl) ?_
          refine u_st rfl (fun _ => rfl) ?_
          refine u_st rfl (fun _ => rfl) ?_
          refine u_st rfl (fun _ => rfl) ?_
          show u_P L xs m d m_X12_laysAhead 35 [(4, .int (x2 * ((f_X12_hourOf x3 S) - (f_X12_hourOf (x3 - (Int32.ofInt 1)) S)))), (0, .ref 100), (1, .int x1), (2, .int x2), (3, .int x3)] [.ref 100] S R _
          refine u_getr rfl v_tyM rfl ?_
          refine u_st rfl (fun _ => rfl) ?_
          refine u_st rfl (fun _ => rfl) ?_
          refine u_st rfl (fun _ => rfl) ?_
          refine u_st rfl (fun _ => rfl) ?_
          refine u_st rfl (fun _ => rfl) ?_
          refine u_st rfl (fun _ => rfl) ?_
          refine u_st rfl (fun _ => rfl) ?_
          show u_P L xs m d m_X12_laysAhead 45 [(4, .int (x2 * ((f_X12_hourOf x3 S) - (f_X12_hourOf (x3 - (Int32.ofInt 1)) S)))), (0, .ref 100), (1, .int x1), (2, .int x2), (3, .int x3)] [.int (((Int32.ofInt 3) * x3) + (Int32.ofInt 1)), .ref 100, .int x3, .ref 168] S R _
          refine u_cv (rest := [.int x3, .ref 168]) rfl (by decide) mt_X12_byteAt v_tyM rfl rfl rfl (Nat.le_of_ble_eq_true rfl) (Nat.le_of_ble_eq_true rfl) (Nat.le_of_ble_eq_true rfl) (fun d' => c_X12_byteAt L xs m d' (((Int32.ofInt 3) * x3) + (Int32.ofInt 1)) S R) ?_
          rintro _ _ _ ⟨_, rfl, rfl, rfl, rfl⟩
          refine u_st rfl (fun _ => rfl) ?_
          show u_P L xs m d m_X12_laysAhead 49 [(4, .int (x2 * ((f_X12_hourOf x3 S) - (f_X12_hourOf (x3 - (Int32.ofInt 1)) S)))), (0, .ref 100), (1, .int x1), (2, .int x2), (3, .int x3)] [.int x3, .int (f_X12_byteAt (((Int32.ofInt 3) * x3) + (Int32.ofInt 1)) S), .int x3, .ref 168] S R _
          refine u_if_ne rfl (fun _ => ?_) (fun h3 => absurd h2 h3)
          show u_P L xs m d m_X12_laysAhead 56 [(4, .int (x2 * ((f_X12_hourOf x3 S) - (f_X12_hourOf (x3 - (Int32.ofInt 1)) S)))), (0, .ref 100), (1, .int x1), (2, .int x2), (3, .int x3)] [.int (f_X12_byteAt (((Int32.ofInt 3) * x3) + (Int32.ofInt 1)) S), .int x3, .ref 168] S R _
          refine u_st rfl (fun _ => rfl) ?_
          show u_P L xs m d m_X12_laysAhead 57 [(4, .int (x2 * ((f_X12_hourOf x3 S) - (f_X12_hourOf (x3 - (Int32.ofInt 1)) S)))), (0, .ref 100), (1, .int x1), (2, .int x2), (3, .int x3)] [.ref 100, .int (f_X12_byteAt (((Int32.ofInt 3) * x3) + (Int32.ofInt 1)) S), .int x3, .ref 168] S R _
          refine u_getr rfl v_tyM rfl ?_
          refine u_st rfl (fun _ => rfl) ?_
          refine u_st rfl (fun _ => rfl) ?_
          refine u_st rfl (fun _ => rfl) ?_
          show u_P L xs m d m_X12_laysAhead 63 [(4, .int (x2 * ((f_X12_hourOf x3 S) - (f_X12_hourOf (x3 - (Int32.ofInt 1)) S)))), (0, .ref 100), (1, .int x1), (2, .int x2), (3, .int x3)] [.int (x3 - (Int32.ofInt 1)), .ref 168, .int (f_X12_byteAt (((Int32.ofInt 3) * x3) + (Int32.ofInt 1)) S), .int x3, .ref 168] S R _
          refine u_ialdE (v := S 167 ((x3 - (Int32.ofInt 1)).toInt.toNat)) rfl rfl rfl (fun b41 b42 => ?_)
          have hD := hD b41 b42
          show u_P L xs m d m_X12_laysAhead 64 [(4, .int (x2 * ((f_X12_hourOf x3 S) - (f_X12_hourOf (x3 - (Int32.ofInt 1)) S)))), (0, .ref 100), (1, .int x1), (2, .int x2), (3, .int x3)] [.int (S 167 ((x3 - (Int32.ofInt 1)).toInt.toNat)), .int (f_X12_byteAt (((Int32.ofInt 3) * x3) + (Int32.ofInt 1)) S), .int x3, .ref 168] S R _
          refine u_st rfl (fun _ => rfl) ?_
          refine u_st rfl (fun _ => rfl) ?_
          show u_P L xs m d m_X12_laysAhead 67 [(4, .int (x2 * ((f_X12_hourOf x3 S) - (f_X12_hourOf (x3 - (Int32.ofInt 1)) S)))), (0, .ref 100), (1, .int x1), (2, .int x2), (3, .int x3)] [.int ((S 167 ((x3 - (Int32.ofInt 1)).toInt.toNat)) - (x2 * ((f_X12_hourOf x3 S) - (f_X12_hourOf (x3 - (Int32.ofInt 1)) S)))), .int (f_X12_byteAt (((Int32.ofInt 3) * x3) + (Int32.ofInt 1)) S), .int x3, .ref 168] S R _
          refine u_cs (ac := [.int (f_X12_byteAt (((Int32.ofInt 3) * x3) + (Int32.ofInt 1)) S), .int ((S 167 ((x3 - (Int32.ofInt 1)).toInt.toNat)) - (x2 * ((f_X12_hourOf x3 S) - (f_X12_hourOf (x3 - (Int32.ofInt 1)) S))))]) (rest := [.int x3, .ref 168]) rfl (by decide) mt_X12_higher (fun _ => rfl) (Nat.le_of_ble_eq_true rfl) (Nat.le_of_ble_eq_true rfl) (fun d' => c_X12_higher L xs m d' (f_X12_byteAt (((Int32.ofInt 3) * x3) + (Int32.ofInt 1)) S) ((S 167 ((x3 - (Int32.ofInt 1)).toInt.toNat)) - (x2 * ((f_X12_hourOf x3 S) - (f_X12_hourOf (x3 - (Int32.ofInt 1)) S)))) S R) ?_
          rintro _ _ _ ⟨_, rfl, rfl, rfl, rfl⟩
          show u_P L xs m d m_X12_laysAhead 70 [(4, .int (x2 * ((f_X12_hourOf x3 S) - (f_X12_hourOf (x3 - (Int32.ofInt 1)) S)))), (0, .ref 100), (1, .int x1), (2, .int x2), (3, .int x3)] [.int (f_X12_higher (f_X12_byteAt (((Int32.ofInt 3) * x3) + (Int32.ofInt 1)) S) ((S 167 ((x3 - (Int32.ofInt 1)).toInt.toNat)) - (x2 * ((f_X12_hourOf x3 S) - (f_X12_hourOf (x3 - (Int32.ofInt 1)) S))))), .int x3, .ref 168] S R _
          refine u_iast rfl rfl (fun b51 b52 => ?_)
          have hD := hD b51 b52
          show u_P L xs m d m_X12_laysAhead 71 [(4, .int (x2 * ((f_X12_hourOf x3 S) - (f_X12_hourOf (x3 - (Int32.ofInt 1)) S)))), (0, .ref 100), (1, .int x1), (2, .int x2), (3, .int x3)] [] (z_s S 167 x3.toInt.toNat (f_X12_higher (f_X12_byteAt (((Int32.ofInt 3) * x3) + (Int32.ofInt 1)) S) ((S 167 ((x3 - (Int32.ofInt 1)).toInt.toNat)) - (x2 * ((f_X12_hourOf x3 S) - (f_X12_hourOf (x3 - (Int32.ofInt 1)) S)))))) R _
          refine u_st rfl (fun _ => rfl) ?_
          show u_P L xs m d m_X12_laysAhead 72 [(4, .int (x2 * ((f_X12_hourOf x3 S) - (f_X12_hourOf (x3 - (Int32.ofInt 1)) S)))), (0, .ref 100), (1, .int x1), (2, .int x2), (3, .int x3)] [.ref 100] (z_s S 167 x3.toInt.toNat (f_X12_higher (f_X12_byteAt (((Int32.ofInt 3) * x3) + (Int32.ofInt 1)) S) ((S 167 ((x3 - (Int32.ofInt 1)).toInt.toNat)) - (x2 * ((f_X12_hourOf x3 S) - (f_X12_hourOf (x3 - (Int32.ofInt 1)) S)))))) R _
          refine u_getr rfl v_tyM rfl ?_
          refine u_st rfl (fun _ => rfl) ?_
          refine u_st rfl (fun _ => rfl) ?_
          refine u_st rfl (fun _ => rfl) ?_
          refine u_st rfl (fun _ => rfl) ?_
          refine u_st rfl (fun _ => rfl) ?_
          refine u_st rfl (fun _ => rfl) ?_
          refine u_st rfl (fun _ => rfl) ?_
          show u_P L xs m d m_X12_laysAhead 82 [(4, .int (x2 * ((f_X12_hourOf x3 S) - (f_X12_hourOf (x3 - (Int32.ofInt 1)) S)))), (0, .ref 100), (1, .int x1), (2, .int x2), (3, .int x3)] [.int (((Int32.ofInt 3) * x3) + (Int32.ofInt 2)), .ref 100, .int x3, .ref 169] (z_s S 167 x3.toInt.toNat (f_X12_higher (f_X12_byteAt (((Int32.ofInt 3) * x3) + (Int32.ofInt 1)) S) ((S 167 ((x3 - (Int32.ofInt 1)).toInt.toNat)) - (x2 * ((f_X12_hourOf x3 S) - (f_X12_hourOf (x3 - (Int32.ofInt 1)) S)))))) R _
          refine u_cv (rest := [.int x3, .ref 169]) rfl (by decide) mt_X12_byteAt v_tyM rfl rfl rfl (Nat.le_of_ble_eq_true rfl) (Nat.le_of_ble_eq_true rfl) (Nat.le_of_ble_eq_true rfl) (fun d' => c_X12_byteAt L xs m d' (((Int32.ofInt 3) * x3) + (Int32.ofInt 2)) (z_s S 167 x3.toInt.toNat (f_X12_higher (f_X12_byteAt (((Int32.ofInt 3) * x3) + (Int32.ofInt 1)) S) ((S 167 ((x3 - (Int32.ofInt 1)).toInt.toNat)) - (x2 * ((f_X12_hourOf x3 S) - (f_X12_hourOf (x3 - (Int32.ofInt 1)) S)))))) R) ?_
          rintro _ _ _ ⟨_, rfl, rfl, rfl, rfl⟩
          refine u_st rfl (fun _ => rfl) ?_
          show u_P L xs m d m_X12_laysAhead 86 [(4, .int (x2 * ((f_X12_hourOf x3 S) - (f_X12_hourOf (x3 - (Int32.ofInt 1)) S)))), (0, .ref 100), (1, .int x1), (2, .int x2), (3, .int x3)] [.int x3, .int (f_X12_byteAt (((Int32.ofInt 3) * x3) + (Int32.ofInt 2)) (z_s S 167 x3.toInt.toNat (f_X12_higher (f_X12_byteAt (((Int32.ofInt 3) * x3) + (Int32.ofInt 1)) S) ((S 167 ((x3 - (Int32.ofInt 1)).toInt.toNat)) - (x2 * ((f_X12_hourOf x3 S) - (f_X12_hourOf (x3 - (Int32.ofInt 1)) S))))))), .int x3, .ref 169] (z_s S 167 x3.toInt.toNat (f_X12_higher (f_X12_byteAt (((Int32.ofInt 3) * x3) + (Int32.ofInt 1)) S) ((S 167 ((x3 - (Int32.ofInt 1)).toInt.toNat)) - (x2 * ((f_X12_hourOf x3 S) - (f_X12_hourOf (x3 - (Int32.ofInt 1)) S)))))) R _
          refine u_if_ne rfl (fun _ => ?_) (fun h6 => absurd h2 h6)
          show u_P L xs m d m_X12_laysAhead 95 [(4, .int (x2 * ((f_X12_hourOf x3 S) - (f_X12_hourOf (x3 - (Int32.ofInt 1)) S)))), (0, .ref 100), (1, .int x1), (2, .int x2), (3, .int x3)] [.int (f_X12_byteAt (((Int32.ofInt 3) * x3) + (Int32.ofInt 2)) (z_s S 167 x3.toInt.toNat (f_X12_higher (f_X12_byteAt (((Int32.ofInt 3) * x3) + (Int32.ofInt 1)) S) ((S 167 ((x3 - (Int32.ofInt 1)).toInt.toNat)) - (x2 * ((f_X12_hourOf x3 S) - (f_X12_hourOf (x3 - (Int32.ofInt 1)) S))))))), .int x3, .ref 169] (z_s S 167 x3.toInt.toNat (f_X12_higher (f_X12_byteAt (((Int32.ofInt 3) * x3) + (Int32.ofInt 1)) S) ((S 167 ((x3 - (Int32.ofInt 1)).toInt.toNat)) - (x2 * ((f_X12_hourOf x3 S) - (f_X12_hourOf (x3 - (Int32.ofInt 1)) S)))))) R _
          refine u_st rfl (fun _ => rfl) ?_
          show u_P L xs m d m_X12_laysAhead 96 [(4, .int (x2 * ((f_X12_hourOf x3 S) - (f_X12_hourOf (x3 - (Int32.ofInt 1)) S)))), (0, .ref 100), (1, .int x1), (2, .int x2), (3, .int x3)] [.ref 100, .int (f_X12_byteAt (((Int32.ofInt 3) * x3) + (Int32.ofInt 2)) (z_s S 167 x3.toInt.toNat (f_X12_higher (f_X12_byteAt (((Int32.ofInt 3) * x3) + (Int32.ofInt 1)) S) ((S 167 ((x3 - (Int32.ofInt 1)).toInt.toNat)) - (x2 * ((f_X12_hourOf x3 S) - (f_X12_hourOf (x3 - (Int32.ofInt 1)) S))))))), .int x3, .ref 169] (z_s S 167 x3.toInt.toNat (f_X12_higher (f_X12_byteAt (((Int32.ofInt 3) * x3) + (Int32.ofInt 1)) S) ((S 167 ((x3 - (Int32.ofInt 1)).toInt.toNat)) - (x2 * ((f_X12_hourOf x3 S) - (f_X12_hourOf (x3 - (Int32.ofInt 1)) S)))))) R _
          refine u_getr rfl v_tyM rfl ?_
          refine u_st rfl (fun _ => rfl) ?_
          refine u_st rfl (fun _ => rfl) ?_
          refine u_st rfl (fun _ => rfl) ?_
          show u_P L xs m d m_X12_laysAhead 102 [(4, .int (x2 * ((f_X12_hourOf x3 S) - (f_X12_hourOf (x3 - (Int32.ofInt 1)) S)))), (0, .ref 100), (1, .int x1), (2, .int x2), (3, .int x3)] [.int (x3 - (Int32.ofInt 1)), .ref 169, .int (f_X12_byteAt (((Int32.ofInt 3) * x3) + (Int32.ofInt 2)) (z_s S 167 x3.toInt.toNat (f_X12_higher (f_X12_byteAt (((Int32.ofInt 3) * x3) + (Int32.ofInt 1)) S) ((S 167 ((x3 - (Int32.ofInt 1)).toInt.toNat)) - (x2 * ((f_X12_hourOf x3 S) - (f_X12_hourOf (x3 - (Int32.ofInt 1)) S))))))), .int x3, .ref 169] (z_s S 167 x3.toInt.toNat (f_X12_higher (f_X12_byteAt (((Int32.ofInt 3) * x3) + (Int32.ofInt 1)) S) ((S 167 ((x3 - (Int32.ofInt 1)).toInt.toNat)) - (x2 * ((f_X12_hourOf x3 S) - (f_X12_hourOf (x3 - (Int32.ofInt 1)) S)))))) R _
          refine u_ialdE (v := S 168 ((x3 - (Int32.ofInt 1)).toInt.toNat)) rfl rfl (z_sn (fun h => absurd h.1 (by decide))) (fun b71 b72 => ?_)
          have hD := hD b71 b72
          show u_P L xs m d m_X12_laysAhead 103 [(4, .int (x2 * ((f_X12_hourOf x3 S) - (f_X12_hourOf (x3 - (Int32.ofInt 1)) S)))), (0, .ref 100), (1, .int x1), (2, .int x2), (3, .int x3)] [.int (S 168 ((x3 - (Int32.ofInt 1)).toInt.toNat)), .int (f_X12_byteAt (((Int32.ofInt 3) * x3) + (Int32.ofInt 2)) (z_s S 167 x3.toInt.toNat (f_X12_higher (f_X12_byteAt (((Int32.ofInt 3) * x3) + (Int32.ofInt 1)) S) ((S 167 ((x3 - (Int32.ofInt 1)).toInt.toNat)) - (x2 * ((f_X12_hourOf x3 S) - (f_X12_hourOf (x3 - (Int32.ofInt 1)) S))))))), .int x3, .ref 169] (z_s S 167 x3.toInt.toNat (f_X12_higher (f_X12_byteAt (((Int32.ofInt 3) * x3) + (Int32.ofInt 1)) S) ((S 167 ((x3 - (Int32.ofInt 1)).toInt.toNat)) - (x2 * ((f_X12_hourOf x3 S) - (f_X12_hourOf (x3 - (Int32.ofInt 1)) S)))))) R _
          refine u_st rfl (fun _ => rfl) ?_
          refine u_st rfl (fun _ => rfl) ?_
          show u_P L xs m d m_X12_laysAhead 106 [(4, .int (x2 * ((f_X12_hourOf x3 S) - (f_X12_hourOf (x3 - (Int32.ofInt 1)) S)))), (0, .ref 100), (1, .int x1), (2, .int x2), (3, .int x3)] [.int ((S 168 ((x3 - (Int32.ofInt 1)).toInt.toNat)) + (x2 * ((f_X12_hourOf x3 S) - (f_X12_hourOf (x3 - (Int32.ofInt 1)) S)))), .int (f_X12_byteAt (((Int32.ofInt 3) * x3) + (Int32.ofInt 2)) (z_s S 167 x3.toInt.toNat (f_X12_higher (f_X12_byteAt (((Int32.ofInt 3) * x3) + (Int32.ofInt 1)) S) ((S 167 ((x3 - (Int32.ofInt 1)).toInt.toNat)) - (x2 * ((f_X12_hourOf x3 S) - (f_X12_hourOf (x3 - (Int32.ofInt 1)) S))))))), .int x3, .ref 169] (z_s S 167 x3.toInt.toNat (f_X12_higher (f_X12_byteAt (((Int32.ofInt 3) * x3) + (Int32.ofInt 1)) S) ((S 167 ((x3 - (Int32.ofInt 1)).toInt.toNat)) - (x2 * ((f_X12_hourOf x3 S) - (f_X12_hourOf (x3 - (Int32.ofInt 1)) S)))))) R _
          refine u_cs (ac := [.int (f_X12_byteAt (((Int32.ofInt 3) * x3) + (Int32.ofInt 2)) (z_s S 167 x3.toInt.toNat (f_X12_higher (f_X12_byteAt (((Int32.ofInt 3) * x3) + (Int32.ofInt 1)) S) ((S 167 ((x3 - (Int32.ofInt 1)).toInt.toNat)) - (x2 * ((f_X12_hourOf x3 S) - (f_X12_hourOf (x3 - (Int32.ofInt 1)) S))))))), .int ((S 168 ((x3 - (Int32.ofInt 1)).toInt.toNat)) + (x2 * ((f_X12_hourOf x3 S) - (f_X12_hourOf (x3 - (Int32.ofInt 1)) S))))]) (rest := [.int x3, .ref 169]) rfl (by decide) mt_X12_lower (fun _ => rfl) (Nat.le_of_ble_eq_true rfl) (Nat.le_of_ble_eq_true rfl) (fun d' => c_X12_lower L xs m d' (f_X12_byteAt (((Int32.ofInt 3) * x3) + (Int32.ofInt 2)) (z_s S 167 x3.toInt.toNat (f_X12_higher (f_X12_byteAt (((Int32.ofInt 3) * x3) + (Int32.ofInt 1)) S) ((S 167 ((x3 - (Int32.ofInt 1)).toInt.toNat)) - (x2 * ((f_X12_hourOf x3 S) - (f_X12_hourOf (x3 - (Int32.ofInt 1)) S))))))) ((S 168 ((x3 - (Int32.ofInt 1)).toInt.toNat)) + (x2 * ((f_X12_hourOf x3 S) - (f_X12_hourOf (x3 - (Int32.ofInt 1)) S)))) (z_s S 167 x3.toInt.toNat (f_X12_higher (f_X12_byteAt (((Int32.ofInt 3) * x3) + (Int32.ofInt 1)) S) ((S 167 ((x3 - (Int32.ofInt 1)).toInt.toNat)) - (x2 * ((f_X12_hourOf x3 S) - (f_X12_hourOf (x3 - (Int32.ofInt 1)) S)))))) R) ?_
          rintro _ _ _ ⟨_, rfl, rfl, rfl, rfl⟩
          show u_P L xs m d m_X12_laysAhead 109 [(4, .int (x2 * ((f_X12_hourOf x3 S) - (f_X12_hourOf (x3 - (Int32.ofInt 1)) S)))), (0, .ref 100), (1, .int x1), (2, .int x2), (3, .int x3)] [.int (f_X12_lower (f_X12_byteAt (((Int32.ofInt 3) * x3) + (Int32.ofInt 2)) (z_s S 167 x3.toInt.toNat (f_X12_higher (f_X12_byteAt (((Int32.ofInt 3) * x3) + (Int32.ofInt 1)) S) ((S 167 ((x3 - (Int32.ofInt 1)).toInt.toNat)) - (x2 * ((f_X12_hourOf x3 S) - (f_X12_hourOf (x3 - (Int32.ofInt 1)) S))))))) ((S 168 ((x3 - (Int32.ofInt 1)).toInt.toNat)) + (x2 * ((f_X12_hourOf x3 S) - (f_X12_hourOf (x3 - (Int32.ofInt 1)) S))))), .int x3, .ref 169] (z_s S 167 x3.toInt.toNat (f_X12_higher (f_X12_byteAt (((Int32.ofInt 3) * x3) + (Int32.ofInt 1)) S) ((S 167 ((x3 - (Int32.ofInt 1)).toInt.toNat)) - (x2 * ((f_X12_hourOf x3 S) - (f_X12_hourOf (x3 - (Int32.ofInt 1)) S)))))) R _
          refine u_iast rfl rfl (fun b81 b82 => ?_)
          have hD := hD b81 b82
          show u_P L xs m d m_X12_laysAhead 110 [(4, .int (x2 * ((f_X12_hourOf x3 S) - (f_X12_hourOf (x3 - (Int32.ofInt 1)) S)))), (0, .ref 100), (1, .int x1), (2, .int x2), (3, .int x3)] [] (z_s (z_s S 167 x3.toInt.toNat (f_X12_higher (f_X12_byteAt (((Int32.ofInt 3) * x3) + (Int32.ofInt 1)) S) ((S 167 ((x3 - (Int32.ofInt 1)).toInt.toNat)) - (x2 * ((f_X12_hourOf x3 S) - (f_X12_hourOf (x3 - (Int32.ofInt 1)) S)))))) 168 x3.toInt.toNat (f_X12_lower (f_X12_byteAt (((Int32.ofInt 3) * x3) + (Int32.ofInt 2)) (z_s S 167 x3.toInt.toNat (f_X12_higher (f_X12_byteAt (((Int32.ofInt 3) * x3) + (Int32.ofInt 1)) S) ((S 167 ((x3 - (Int32.ofInt 1)).toInt.toNat)) - (x2 * ((f_X12_hourOf x3 S) - (f_X12_hourOf (x3 - (Int32.ofInt 1)) S))))))) ((S 168 ((x3 - (Int32.ofInt 1)).toInt.toNat)) + (x2 * ((f_X12_hourOf x3 S) - (f_X12_hourOf (x3 - (Int32.ofInt 1)) S)))))) R _
          refine u_st rfl (fun _ => rfl) ?_
          show u_P L xs m d m_X12_laysAhead 111 [(4, .int (x2 * ((f_X12_hourOf x3 S) - (f_X12_hourOf (x3 - (Int32.ofInt 1)) S)))), (0, .ref 100), (1, .int x1), (2, .int x2), (3, .int x3)] [.ref 100] (z_s (z_s S 167 x3.toInt.toNat (f_X12_higher (f_X12_byteAt (((Int32.ofInt 3) * x3) + (Int32.ofInt 1)) S) ((S 167 ((x3 - (Int32.ofInt 1)).toInt.toNat)) - (x2 * ((f_X12_hourOf x3 S) - (f_X12_hourOf (x3 - (Int32.ofInt 1)) S)))))) 168 x3.toInt.toNat (f_X12_lower (f_X12_byteAt (((Int32.ofInt 3) * x3) + (Int32.ofInt 2)) (z_s S 167 x3.toInt.toNat (f_X12_higher (f_X12_byteAt (((Int32.ofInt 3) * x3) + (Int32.ofInt 1)) S) ((S 167 ((x3 - (Int32.ofInt 1)).toInt.toNat)) - (x2 * ((f_X12_hourOf x3 S) - (f_X12_hourOf (x3 - (Int32.ofInt 1)) S))))))) ((S 168 ((x3 - (Int32.ofInt 1)).toInt.toNat)) + (x2 * ((f_X12_hourOf x3 S) - (f_X12_hourOf (x3 - (Int32.ofInt 1)) S)))))) R _
          refine u_getr rfl v_tyM rfl ?_
          refine u_st rfl (fun _ => rfl) ?_
          show u_P L xs m d m_X12_laysAhead 115 [(4, .int (x2 * ((f_X12_hourOf x3 S) - (f_X12_hourOf (x3 - (Int32.ofInt 1)) S)))), (0, .ref 100), (1, .int x1), (2, .int x2), (3, .int x3)] [.int x3, .ref 168] (z_s (z_s S 167 x3.toInt.toNat (f_X12_higher (f_X12_byteAt (((Int32.ofInt 3) * x3) + (Int32.ofInt 1)) S) ((S 167 ((x3 - (Int32.ofInt 1)).toInt.toNat)) - (x2 * ((f_X12_hourOf x3 S) - (f_X12_hourOf (x3 - (Int32.ofInt 1)) S)))))) 168 x3.toInt.toNat (f_X12_lower (f_X12_byteAt (((Int32.ofInt 3) * x3) + (Int32.ofInt 2)) (z_s S 167 x3.toInt.toNat (f_X12_higher (f_X12_byteAt (((Int32.ofInt 3) * x3) + (Int32.ofInt 1)) S) ((S 167 ((x3 - (Int32.ofInt 1)).toInt.toNat)) - (x2 * ((f_X12_hourOf x3 S) - (f_X12_hourOf (x3 - (Int32.ofInt 1)) S))))))) ((S 168 ((x3 - (Int32.ofInt 1)).toInt.toNat)) + (x2 * ((f_X12_hourOf x3 S) - (f_X12_hourOf (x3 - (Int32.ofInt 1)) S)))))) R _
          refine u_ialdE (v := f_X12_higher (f_X12_byteAt (((Int32.ofInt 3) * x3) + (Int32.ofInt 1)) S) ((S 167 ((x3 - (Int32.ofInt 1)).toInt.toNat)) - (x2 * ((f_X12_hourOf x3 S) - (f_X12_hourOf (x3 - (Int32.ofInt 1)) S))))) rfl rfl ((z_sn (fun h => absurd h.1 (by decide))).trans z_ss) (fun b91 b92 => ?_)
          have hD := hD b91 b92
          show u_P L xs m d m_X12_laysAhead 116 [(4, .int (x2 * ((f_X12_hourOf x3 S) - (f_X12_hourOf (x3 - (Int32.ofInt 1)) S)))), (0, .ref 100), (1, .int x1), (2, .int x2), (3, .int x3)] [.int (f_X12_higher (f_X12_byteAt (((Int32.ofInt 3) * x3) + (Int32.ofInt 1)) S) ((S 167 ((x3 - (Int32.ofInt 1)).toInt.toNat)) - (x2 * ((f_X12_hourOf x3 S) - (f_X12_hourOf (x3 - (Int32.ofInt 1)) S)))))] (z_s (z_s S 167 x3.toInt.toNat (f_X12_higher (f_X12_byteAt (((Int32.ofInt 3) * x3) + (Int32.ofInt 1)) S) ((S 167 ((x3 - (Int32.ofInt 1)).toInt.toNat)) - (x2 * ((f_X12_hourOf x3 S) - (f_X12_hourOf (x3 - (Int32.ofInt 1)) S)))))) 168 x3.toInt.toNat (f_X12_lower (f_X12_byteAt (((Int32.ofInt 3) * x3) + (Int32.ofInt 2)) (z_s S 167 x3.toInt.toNat (f_X12_higher (f_X12_byteAt (((Int32.ofInt 3) * x3) + (Int32.ofInt 1)) S) ((S 167 ((x3 - (Int32.ofInt 1)).toInt.toNat)) - (x2 * ((f_X12_hourOf x3 S) - (f_X12_hourOf (x3 - (Int32.ofInt 1)) S))))))) ((S 168 ((x3 - (Int32.ofInt 1)).toInt.toNat)) + (x2 * ((f_X12_hourOf x3 S) - (f_X12_hourOf (x3 - (Int32.ofInt 1)) S)))))) R _
          refine u_st rfl (fun _ => rfl) ?_
          show u_P L xs m d m_X12_laysAhead 117 [(4, .int (x2 * ((f_X12_hourOf x3 S) - (f_X12_hourOf (x3 - (Int32.ofInt 1)) S)))), (0, .ref 100), (1, .int x1), (2, .int x2), (3, .int x3)] [.ref 100, .int (f_X12_higher (f_X12_byteAt (((Int32.ofInt 3) * x3) + (Int32.ofInt 1)) S) ((S 167 ((x3 - (Int32.ofInt 1)).toInt.toNat)) - (x2 * ((f_X12_hourOf x3 S) - (f_X12_hourOf (x3 - (Int32.ofInt 1)) S)))))] (z_s (z_s S 167 x3.toInt.toNat (f_X12_higher (f_X12_byteAt (((Int32.ofInt 3) * x3) + (Int32.ofInt 1)) S) ((S 167 ((x3 - (Int32.ofInt 1)).toInt.toNat)) - (x2 * ((f_X12_hourOf x3 S) - (f_X12_hourOf (x3 - (Int32.ofInt 1)) S)))))) 168 x3.toInt.toNat (f_X12_lower (f_X12_byteAt (((Int32.ofInt 3) * x3) + (Int32.ofInt 2)) (z_s S 167 x3.toInt.toNat (f_X12_higher (f_X12_byteAt (((Int32.ofInt 3) * x3) + (Int32.ofInt 1)) S) ((S 167 ((x3 - (Int32.ofInt 1)).toInt.toNat)) - (x2 * ((f_X12_hourOf x3 S) - (f_X12_hourOf (x3 - (Int32.ofInt 1)) S))))))) ((S 168 ((x3 - (Int32.ofInt 1)).toInt.toNat)) + (x2 * ((f_X12_hourOf x3 S) - (f_X12_hourOf (x3 - (Int32.ofInt 1)) S)))))) R _
          refine u_getr rfl v_tyM rfl ?_
          refine u_st rfl (fun _ => rfl) ?_
          show u_P L xs m d m_X12_laysAhead 121 [(4, .int (x2 * ((f_X12_hourOf x3 S) - (f_X12_hourOf (x3 - (Int32.ofInt 1)) S)))), (0, .ref 100), (1, .int x1), (2, .int x2), (3, .int x3)] [.int x3, .ref 169, .int (f_X12_higher (f_X12_byteAt (((Int32.ofInt 3) * x3) + (Int32.ofInt 1)) S) ((S 167 ((x3 - (Int32.ofInt 1)).toInt.toNat)) - (x2 * ((f_X12_hourOf x3 S) - (f_X12_hourOf (x3 - (Int32.ofInt 1)) S)))))] (z_s (z_s S 167 x3.toInt.toNat (f_X12_higher (f_X12_byteAt (((Int32.ofInt 3) * x3) + (Int32.ofInt 1)) S) ((S 167 ((x3 - (Int32.ofInt 1)).toInt.toNat)) - (x2 * ((f_X12_hourOf x3 S) - (f_X12_hourOf (x3 - (Int32.ofInt 1)) S)))))) 168 x3.toInt.toNat (f_X12_lower (f_X12_byteAt (((Int32.ofInt 3) * x3) + (Int32.ofInt 2)) (z_s S 167 x3.toInt.toNat (f_X12_higher (f_X12_byteAt (((Int32.ofInt 3) * x3) + (Int32.ofInt 1)) S) ((S 167 ((x3 - (Int32.ofInt 1)).toInt.toNat)) - (x2 * ((f_X12_hourOf x3 S) - (f_X12_hourOf (x3 - (Int32.ofInt 1)) S))))))) ((S 168 ((x3 - (Int32.ofInt 1)).toInt.toNat)) + (x2 * ((f_X12_hourOf x3 S) - (f_X12_hourOf (x3 - (Int32.ofInt 1)) S)))))) R _
          refine u_ialdE (v := f_X12_lower (f_X12_byteAt (((Int32.ofInt 3) * x3) + (Int32.ofInt 2)) (z_s S 167 x3.toInt.toNat (f_X12_higher (f_X12_byteAt (((Int32.ofInt 3) * x3) + (Int32.ofInt 1)) S) ((S 167 ((x3 - (Int32.ofInt 1)).toInt.toNat)) - (x2 * ((f_X12_hourOf x3 S) - (f_X12_hourOf (x3 - (Int32.ofInt 1)) S))))))) ((S 168 ((x3 - (Int32.ofInt 1)).toInt.toNat)) + (x2 * ((f_X12_hourOf x3 S) - (f_X12_hourOf (x3 - (Int32.ofInt 1)) S))))) rfl rfl z_ss (fun b101 b102 => ?_)
          have hD := hD b101 b102
          show u_P L xs m d m_X12_laysAhead 122 [(4, .int (x2 * ((f_X12_hourOf x3 S) - (f_X12_hourOf (x3 - (Int32.ofInt 1)) S)))), (0, .ref 100), (1, .int x1), (2, .int x2), (3, .int x3)] [.int (f_X12_lower (f_X12_byteAt (((Int32.ofInt 3) * x3) + (Int32.ofInt 2)) (z_s S 167 x3.toInt.toNat (f_X12_higher (f_X12_byteAt (((Int32.ofInt 3) * x3) + (Int32.ofInt 1)) S) ((S 167 ((x3 - (Int32.ofInt 1)).toInt.toNat)) - (x2 * ((f_X12_hourOf x3 S) - (f_X12_hourOf (x3 - (Int32.ofInt 1)) S))))))) ((S 168 ((x3 - (Int32.ofInt 1)).toInt.toNat)) + (x2 * ((f_X12_hourOf x3 S) - (f_X12_hourOf (x3 - (Int32.ofInt 1)) S))))), .int (f_X12_higher (f_X12_byteAt (((Int32.ofInt 3) * x3) + (Int32.ofInt 1)) S) ((S 167 ((x3 - (Int32.ofInt 1)).toInt.toNat)) - (x2 * ((f_X12_hourOf x3 S) - (f_X12_hourOf (x3 - (Int32.ofInt 1)) S)))))] (z_s (z_s S 167 x3.toInt.toNat (f_X12_higher (f_X12_byteAt (((Int32.ofInt 3) * x3) + (Int32.ofInt 1)) S) ((S 167 ((x3 - (Int32.ofInt 1)).toInt.toNat)) - (x2 * ((f_X12_hourOf x3 S) - (f_X12_hourOf (x3 - (Int32.ofInt 1)) S)))))) 168 x3.toInt.toNat (f_X12_lower (f_X12_byteAt (((Int32.ofInt 3) * x3) + (Int32.ofInt 2)) (z_s S 167 x3.toInt.toNat (f_X12_higher (f_X12_byteAt (((Int32.ofInt 3) * x3) + (Int32.ofInt 1)) S) ((S 167 ((x3 - (Int32.ofInt 1)).toInt.toNat)) - (x2 * ((f_X12_hourOf x3 S) - (f_X12_hourOf (x3 - (Int32.ofInt 1)) S))))))) ((S 168 ((x3 - (Int32.ofInt 1)).toInt.toNat)) + (x2 * ((f_X12_hourOf x3 S) - (f_X12_hourOf (x3 - (Int32.ofInt 1)) S)))))) R _
          refine u_ic_le rfl (fun h11 => ?_) (fun h11 => ?_)
          · have hD := hD.1 h11
            show u_P L xs m d m_X12_laysAhead 127 [(4, .int (x2 * ((f_X12_hourOf x3 S) - (f_X12_hourOf (x3 - (Int32.ofInt 1)) S)))), (0, .ref 100), (1, .int x1), (2, .int x2), (3, .int x3)] [] (z_s (z_s S 167 x3.toInt.toNat (f_X12_higher (f_X12_byteAt (((Int32.ofInt 3) * x3) + (Int32.ofInt 1)) S) ((S 167 ((x3 - (Int32.ofInt 1)).toInt.toNat)) - (x2 * ((f_X12_hourOf x3 S) - (f_X12_hourOf (x3 - (Int32.ofInt 1)) S)))))) 168 x3.toInt.toNat (f_X12_lower (f_X12_byteAt (((Int32.ofInt 3) * x3) + (Int32.ofInt 2)) (z_s S 167 x3.toInt.toNat (f_X12_higher (f_X12_byteAt (((Int32.ofInt 3) * x3) + (Int32.ofInt 1)) S) ((S 167 ((x3 - (Int32.ofInt 1)).toInt.toNat)) - (x2 * ((f_X12_hourOf x3 S) - (f_X12_hourOf (x3 - (Int32.ofInt 1)) S))))))) ((S 168 ((x3 - (Int32.ofInt 1)).toInt.toNat)) + (x2 * ((f_X12_hourOf x3 S) - (f_X12_hourOf (x3 - (Int32.ofInt 1)) S)))))) R _
            refine u_st rfl (fun _ => rfl) ?_
            refine u_st rfl (fun _ => rfl) ?_
            refine u_lc (b := [(0, .ref 100), (1, .int x1), (2, .int x2), (3, .int (x3 + (Int32.ofInt 1))), (4, .int (x2 * ((f_X12_hourOf x3 S) - (f_X12_hourOf (x3 - (Int32.ofInt 1)) S))))]) (show ([3, 4, 0, 1, 2] : List Nat).Nodup by decide) (show ([0, 1, 2, 3, 4] : List Nat).Nodup by decide) (fun i => match i with | 0 => rfl | 1 => rfl | 2 => rfl | 3 => rfl | 4 => rfl | _ + 5 => rfl) ?_
            exact (ih m hm).2 d (x2 * ((f_X12_hourOf x3 S) - (f_X12_hourOf (x3 - (Int32.ofInt 1)) S))) x1 x2 (x3 + (Int32.ofInt 1)) (z_s (z_s S 167 x3.toInt.toNat (f_X12_higher (f_X12_byteAt (((Int32.ofInt 3) * x3) + (Int32.ofInt 1)) S) ((S 167 ((x3 - (Int32.ofInt 1)).toInt.toNat)) - (x2 * ((f_X12_hourOf x3 S) - (f_X12_hourOf (x3 - (Int32.ofInt 1)) S)))))) 168 x3.toInt.toNat (f_X12_lower (f_X12_byteAt (((Int32.ofInt 3) * x3) + (Int32.ofInt 2)) (z_s S 167 x3.toInt.toNat (f_X12_higher (f_X12_byteAt (((Int32.ofInt 3) * x3) + (Int32.ofInt 1)) S) ((S 167 ((x3 - (Int32.ofInt 1)).toInt.toNat)) - (x2 * ((f_X12_hourOf x3 S) - (f_X12_hourOf (x3 - (Int32.ofInt 1)) S))))))) ((S 168 ((x3 - (Int32.ofInt 1)).toInt.toNat)) + (x2 * ((f_X12_hourOf x3 S) - (f_X12_hourOf (x3 - (Int32.ofInt 1)) S)))))) hD
          · have hD := hD.2 h11
            show u_P L xs m d m_X12_laysAhead 125 [(4, .int (x2 * ((f_X12_hourOf x3 S) - (f_X12_hourOf (x3 - (Int32.ofInt 1)) S)))), (0, .ref 100), (1, .int x1), (2, .int x2), (3, .int x3)] [] (z_s (z_s S 167 x3.toInt.toNat (f_X12_higher (f_X12_byteAt (((Int32.ofInt 3) * x3) + (Int32.ofInt 1)) S) ((S 167 ((x3 - (Int32.ofInt 1)).toInt.toNat)) - (x2 * ((f_X12_hourOf x3 S) - (f_X12_hourOf (x3 - (Int32.ofInt 1)) S)))))) 168 x3.toInt.toNat (f_X12_lower (f_X12_byteAt (((Int32.ofInt 3) * x3) + (Int32.ofInt 2)) (z_s S 167 x3.toInt.toNat (f_X12_higher (f_X12_byteAt (((Int32.ofInt 3) * x3) + (Int32.ofInt 1)) S) ((S 167 ((x3 - (Int32.ofInt 1)).toInt.toNat)) - (x2 * ((f_X12_hourOf x3 S) - (f_X12_hourOf (x3 - (Int32.ofInt 1)) S))))))) ((S 168 ((x3 - (Int32.ofInt 1)).toInt.toNat)) + (x2 * ((f_X12_hourOf x3 S) - (f_X12_hourOf (x3 - (Int32.ofInt 1)) S)))))) R _
            refine u_st rfl (fun _ => rfl) ?_
            show u_P L xs m d m_X12_laysAhead 126 [(4, .int (x2 * ((f_X12_hourOf x3 S) - (f_X12_hourOf (x3 - (Int32.ofInt 1)) S)))), (0, .ref 100), (1, .int x1), (2, .int x2), (3, .int x3)] [.int (Int32.ofInt 0)] (z_s (z_s S 167 x3.toInt.toNat (f_X12_higher (f_X12_byteAt (((Int32.ofInt 3) * x3) + (Int32.ofInt 1)) S) ((S 167 ((x3 - (Int32.ofInt 1)).toInt.toNat)) - (x2 * ((f_X12_hourOf x3 S) - (f_X12_hourOf (x3 - (Int32.ofInt 1)) S)))))) 168 x3.toInt.toNat (f_X12_lower (f_X12_byteAt (((Int32.ofInt 3) * x3) + (Int32.ofInt 2)) (z_s S 167 x3.toInt.toNat (f_X12_higher (f_X12_byteAt (((Int32.ofInt 3) * x3) + (Int32.ofInt 1)) S) ((S 167 ((x3 - (Int32.ofInt 1)).toInt.toNat)) - (x2 * ((f_X12_hourOf x3 S) - (f_X12_hourOf (x3 - (Int32.ofInt 1)) S))))))) ((S 168 ((x3 - (Int32.ofInt 1)).toInt.toNat)) + (x2 * ((f_X12_hourOf x3 S) - (f_X12_hourOf (x3 - (Int32.ofInt 1)) S)))))) R _
            exact u_retb rfl rfl ⟨_, rfl, rfl, hD⟩
        · have hD := hD.2 h2
          show u_P L xs m d m_X12_laysAhead 11 [(0, .ref 100), (1, .int x1), (2, .int x2), (3, .int x3), (4, .int j4)] [] S R _
          refine u_st rfl (fun _ => rfl) ?_
          refine u_st rfl (fun _ => rfl) ?_
          refine u_st rfl (fun _ => rfl) ?_
          refine u_st rfl (fun _ => rfl) ?_
          show u_P L xs m d m_X12_laysAhead 35 [(4, .int (Int32.ofInt 500000000)), (0, .ref 100), (1, .int x1), (2, .int x2), (3, .int x3)] [.ref 100] S R _
          refine u_getr rfl v_tyM rfl ?_
          refine u_st rfl (fun _ => rfl) ?_
          refine u_st rfl (fun _ => rfl) ?_
          refine u_st rfl (fun _ => rfl) ?_
          refine u_st rfl (fun _ => rfl) ?_
          refine u_st rfl (fun _ => rfl) ?_
          refine u_st rfl (fun _ => rfl) ?_
          refine u_st rfl (fun _ => rfl) ?_
          show u_P L xs m d m_X12_laysAhead 45 [(4, .int (Int32.ofInt 500000000)), (0, .ref 100), (1, .int x1), (2, .int x2), (3, .int x3)] [.int (((Int32.ofInt 3) * x3) + (Int32.ofInt 1)), .ref 100, .int x3, .ref 168] S R _
          refine u_cv (rest := [.int x3, .ref 168]) rfl (by decide) mt_X12_byteAt v_tyM rfl rfl rfl (Nat.le_of_ble_eq_true rfl) (Nat.le_of_ble_eq_true rfl) (Nat.le_of_ble_eq_true rfl) (fun d' => c_X12_byteAt L xs m d' (((Int32.ofInt 3) * x3) + (Int32.ofInt 1)) S R) ?_
          rintro _ _ _ ⟨_, rfl, rfl, rfl, rfl⟩
          refine u_st rfl (fun _ => rfl) ?_
          show u_P L xs m d m_X12_laysAhead 49 [(4, .int (Int32.ofInt 500000000)), (0, .ref 100), (1, .int x1), (2, .int x2), (3, .int x3)] [.int x3, .int (f_X12_byteAt (((Int32.ofInt 3) * x3) + (Int32.ofInt 1)) S), .int x3, .ref 168] S R _
          refine u_if_ne rfl (fun h12 => absurd (Classical.not_not.mp h2) h12) (fun _ => ?_)
          show u_P L xs m d m_X12_laysAhead 52 [(4, .int (Int32.ofInt 500000000)), (0, .ref 100), (1, .int x1), (2, .int x2), (3, .int x3)] [.int (f_X12_byteAt (((Int32.ofInt 3) * x3) + (Int32.ofInt 1)) S), .int x3, .ref 168] S R _
          refine u_st rfl (fun _ => rfl) ?_
          refine u_st rfl (fun _ => rfl) ?_
          show u_P L xs m d m_X12_laysAhead 67 [(4, .int (Int32.ofInt 500000000)), (0, .ref 100), (1, .int x1), (2, .int x2), (3, .int x3)] [.int (Int32.ofInt 0), .int (f_X12_byteAt (((Int32.ofInt 3) * x3) + (Int32.ofInt 1)) S), .int x3, .ref 168] S R _
          refine u_cs (ac := [.int (f_X12_byteAt (((Int32.ofInt 3) * x3) + (Int32.ofInt 1)) S), .int (Int32.ofInt 0)]) (rest := [.int x3, .ref 168]) rfl (by decide) mt_X12_higher (fun _ => rfl) (Nat.le_of_ble_eq_true rfl) (Nat.le_of_ble_eq_true rfl) (fun d' => c_X12_higher L xs m d' (f_X12_byteAt (((Int32.ofInt 3) * x3) + (Int32.ofInt 1)) S) (Int32.ofInt 0) S R) ?_
          rintro _ _ _ ⟨_, rfl, rfl, rfl, rfl⟩
          show u_P L xs m d m_X12_laysAhead 70 [(4, .int (Int32.ofInt 500000000)), (0, .ref 100), (1, .int x1), (2, .int x2), (3, .int x3)] [.int (f_X12_higher (f_X12_byteAt (((Int32.ofInt 3) * x3) + (Int32.ofInt 1)) S) (Int32.ofInt 0)), .int x3, .ref 168] S R _
          refine u_iast rfl rfl (fun b131 b132 => ?_)
          have hD := hD b131 b132
          show u_P L xs m d m_X12_laysAhead 71 [(4, .int (Int32.ofInt 500000000)), (0, .ref 100), (1, .int x1), (2, .int x2), (3, .int x3)] [] (z_s S 167 x3.toInt.toNat (f_X12_higher (f_X12_byteAt (((Int32.ofInt 3) * x3) + (Int32.ofInt 1)) S) (Int32.ofInt 0))) R _
          refine u_st rfl (fun _ => rfl) ?_
          show u_P L xs m d m_X12_laysAhead 72 [(4, .int (Int32.ofInt 500000000)), (0, .ref 100), (1, .int x1), (2, .int x2), (3, .int x3)] [.ref 100] (z_s S 167 x3.toInt.toNat (f_X12_higher (f_X12_byteAt (((Int32.ofInt 3) * x3) + (Int32.ofInt 1)) S) (Int32.ofInt 0))) R _
          refine u_getr rfl v_tyM rfl ?_
          refine u_st rfl (fun _ => rfl) ?_
          refine u_st rfl (fun _ => rfl) ?_
          refine u_st rfl (fun _ => rfl) ?_
          refine u_st rfl (fun _ => rfl) ?_
          refine u_st rfl (fun _ => rfl) ?_
          refine u_st rfl (fun _ => rfl) ?_
          refine u_st rfl (fun _ => rfl) ?_
          show u_P L xs m d m_X12_laysAhead 82 [(4, .int (Int32.ofInt 500000000)), (0, .ref 100), (1, .int x1), (2, .int x2), (3, .int x3)] [.int (((Int32.ofInt 3) * x3) + (Int32.ofInt 2)), .ref 100, .int x3, .ref 169] (z_s S 167 x3.toInt.toNat (f_X12_higher (f_X12_byteAt (((Int32.ofInt 3) * x3) + (Int32.ofInt 1)) S) (Int32.ofInt 0))) R _
          refine u_cv (rest := [.int x3, .ref 169]) rfl (by decide) mt_X12_byteAt v_tyM rfl rfl rfl (Nat.le_of_ble_eq_true rfl) (Nat.le_of_ble_eq_true rfl) (Nat.le_of_ble_eq_true rfl) (fun d' => c_X12_byteAt L xs m d' (((Int32.ofInt 3) * x3) + (Int32.ofInt 2)) (z_s S 167 x3.toInt.toNat (f_X12_higher (f_X12_byteAt (((Int32.ofInt 3) * x3) + (Int32.ofInt 1)) S) (Int32.ofInt 0))) R) ?_
          rintro _ _ _ ⟨_, rfl, rfl, rfl, rfl⟩
          refine u_st rfl (fun _ => rfl) ?_
          show u_P L xs m d m_X12_laysAhead 86 [(4, .int (Int32.ofInt 500000000)), (0, .ref 100), (1, .int x1), (2, .int x2), (3, .int x3)] [.int x3, .int (f_X12_byteAt (((Int32.ofInt 3) * x3) + (Int32.ofInt 2)) (z_s S 167 x3.toInt.toNat (f_X12_higher (f_X12_byteAt (((Int32.ofInt 3) * x3) + (Int32.ofInt 1)) S) (Int32.ofInt 0)))), .int x3, .ref 169] (z_s S 167 x3.toInt.toNat (f_X12_higher (f_X12_byteAt (((Int32.ofInt 3) * x3) + (Int32.ofInt 1)) S) (Int32.ofInt 0))) R _
          refine u_if_ne rfl (fun h14 => absurd (Classical.not_not.mp h2) h14) (fun _ => ?_)
          show u_P L xs m d m_X12_laysAhead 89 [(4, .int (Int32.ofInt 500000000)), (0, .ref 100), (1, .int x1), (2, .int x2), (3, .int x3)] [.int (f_X12_byteAt (((Int32.ofInt 3) * x3) + (Int32.ofInt 2)) (z_s S 167 x3.toInt.toNat (f_X12_higher (f_X12_byteAt (((Int32.ofInt 3) * x3) + (Int32.ofInt 1)) S) (Int32.ofInt 0)))), .int x3, .ref 169] (z_s S 167 x3.toInt.toNat (f_X12_higher (f_X12_byteAt (((Int32.ofInt 3) * x3) + (Int32.ofInt 1)) S) (Int32.ofInt 0))) R _
          refine u_st rfl (fun _ => rfl) ?_
          refine u_st rfl (fun _ => rfl) ?_
          show u_P L xs m d m_X12_laysAhead 106 [(4, .int (Int32.ofInt 500000000)), (0, .ref 100), (1, .int x1), (2, .int x2), (3, .int x3)] [.int (Int32.ofInt 250), .int (f_X12_byteAt (((Int32.ofInt 3) * x3) + (Int32.ofInt 2)) (z_s S 167 x3.toInt.toNat (f_X12_higher (f_X12_byteAt (((Int32.ofInt 3) * x3) + (Int32.ofInt 1)) S) (Int32.ofInt 0)))), .int x3, .ref 169] (z_s S 167 x3.toInt.toNat (f_X12_higher (f_X12_byteAt (((Int32.ofInt 3) * x3) + (Int32.ofInt 1)) S) (Int32.ofInt 0))) R _
          refine u_cs (ac := [.int (f_X12_byteAt (((Int32.ofInt 3) * x3) + (Int32.ofInt 2)) (z_s S 167 x3.toInt.toNat (f_X12_higher (f_X12_byteAt (((Int32.ofInt 3) * x3) + (Int32.ofInt 1)) S) (Int32.ofInt 0)))), .int (Int32.ofInt 250)]) (rest := [.int x3, .ref 169]) rfl (by decide) mt_X12_lower (fun _ => rfl) (Nat.le_of_ble_eq_true rfl) (Nat.le_of_ble_eq_true rfl) (fun d' => c_X12_lower L xs m d' (f_X12_byteAt (((Int32.ofInt 3) * x3) + (Int32.ofInt 2)) (z_s S 167 x3.toInt.toNat (f_X12_higher (f_X12_byteAt (((Int32.ofInt 3) * x3) + (Int32.ofInt 1)) S) (Int32.ofInt 0)))) (Int32.ofInt 250) (z_s S 167 x3.toInt.toNat (f_X12_higher (f_X12_byteAt (((Int32.ofInt 3) * x3) + (Int32.ofInt 1)) S) (Int32.ofInt 0))) R) ?_
          rintro _ _ _ ⟨_, rfl, rfl, rfl, rfl⟩
          show u_P L xs m d m_X12_laysAhead 109 [(4, .int (Int32.ofInt 500000000)), (0, .ref 100), (1, .int x1), (2, .int x2), (3, .int x3)] [.int (f_X12_lower (f_X12_byteAt (((Int32.ofInt 3) * x3) + (Int32.ofInt 2)) (z_s S 167 x3.toInt.toNat (f_X12_higher (f_X12_byteAt (((Int32.ofInt 3) * x3) + (Int32.ofInt 1)) S) (Int32.ofInt 0)))) (Int32.ofInt 250)), .int x3, .ref 169] (z_s S 167 x3.toInt.toNat (f_X12_higher (f_X12_byteAt (((Int32.ofInt 3) * x3) + (Int32.ofInt 1)) S) (Int32.ofInt 0))) R _
          refine u_iast rfl rfl (fun b151 b152 => ?_)
          have hD := hD b151 b152
          show u_P L xs m d m_X12_laysAhead 110 [(4, .int (Int32.ofInt 500000000)), (0, .ref 100), (1, .int x1), (2, .int x2), (3, .int x3)] [] (z_s (z_s S 167 x3.toInt.toNat (f_X12_higher (f_X12_byteAt (((Int32.ofInt 3) * x3) + (Int32.ofInt 1)) S) (Int32.ofInt 0))) 168 x3.toInt.toNat (f_X12_lower (f_X12_byteAt (((Int32.ofInt 3) * x3) + (Int32.ofInt 2)) (z_s S 167 x3.toInt.toNat (f_X12_higher (f_X12_byteAt (((Int32.ofInt 3) * x3) + (Int32.ofInt 1)) S) (Int32.ofInt 0)))) (Int32.ofInt 250))) R _
          refine u_st rfl (fun _ => rfl) ?_
          show u_P L xs m d m_X12_laysAhead 111 [(4, .int (Int32.ofInt 500000000)), (0, .ref 100), (1, .int x1), (2, .int x2), (3, .int x3)] [.ref 100] (z_s (z_s S 167 x3.toInt.toNat (f_X12_higher (f_X12_byteAt (((Int32.ofInt 3) * x3) + (Int32.ofInt 1)) S) (Int32.ofInt 0))) 168 x3.toInt.toNat (f_X12_lower (f_X12_byteAt (((Int32.ofInt 3) * x3) + (Int32.ofInt 2)) (z_s S 167 x3.toInt.toNat (f_X12_higher (f_X12_byteAt (((Int32.ofInt 3) * x3) + (Int32.ofInt 1)) S) (Int32.ofInt 0)))) (Int32.ofInt 250))) R _
          refine u_getr rfl v_tyM rfl ?_
          refine u_st rfl (fun _ => rfl) ?_
          show u_P L xs m d m_X12_laysAhead 115 [(4, .int (Int32.ofInt 500000000)), (0, .ref 100), (1, .int x1), (2, .int x2), (3, .int x3)] [.int x3, .ref 168] (z_s (z_s S 167 x3.toInt.toNat (f_X12_higher (f_X12_byteAt (((Int32.ofInt 3) * x3) + (Int32.ofInt 1)) S) (Int32.ofInt 0))) 168 x3.toInt.toNat (f_X12_lower (f_X12_byteAt (((Int32.ofInt 3) * x3) + (Int32.ofInt 2)) (z_s S 167 x3.toInt.toNat (f_X12_higher (f_X12_byteAt (((Int32.ofInt 3) * x3) + (Int32.ofInt 1)) S) (Int32.ofInt 0)))) (Int32.ofInt 250))) R _
          refine u_ialdE (v := f_X12_higher (f_X12_byteAt (((Int32.ofInt 3) * x3) + (Int32.ofInt 1)) S) (Int32.ofInt 0)) rfl rfl ((z_sn (fun h => absurd h.1 (by decide))).trans z_ss) (fun b161 b162 => ?_)
          have hD := hD b161 b162
          show u_P L xs m d m_X12_laysAhead 116 [(4, .int (Int32.ofInt 500000000)), (0, .ref 100), (1, .int x1), (2, .int x2), (3, .int x3)] [.int (f_X12_higher (f_X12_byteAt (((Int32.ofInt 3) * x3) + (Int32.ofInt 1)) S) (Int32.ofInt 0))] (z_s (z_s S 167 x3.toInt.toNat (f_X12_higher (f_X12_byteAt (((Int32.ofInt 3) * x3) + (Int32.ofInt 1)) S) (Int32.ofInt 0))) 168 x3.toInt.toNat (f_X12_lower (f_X12_byteAt (((Int32.ofInt 3) * x3) + (Int32.ofInt 2)) (z_s S 167 x3.toInt.toNat (f_X12_higher (f_X12_byteAt (((Int32.ofInt 3) * x3) + (Int32.ofInt 1)) S) (Int32.ofInt 0)))) (Int32.ofInt 250))) R _
          refine u_st rfl (fun _ => rfl) ?_
          show u_P L xs m d m_X12_laysAhead 117 [(4, .int (Int32.ofInt 500000000)), (0, .ref 100), (1, .int x1), (2, .int x2), (3, .int x3)] [.ref 100, .int (f_X12_higher (f_X12_byteAt (((Int32.ofInt 3) * x3) + (Int32.ofInt 1)) S) (Int32.ofInt 0))] (z_s (z_s S 167 x3.toInt.toNat (f_X12_higher (f_X12_byteAt (((Int32.ofInt 3) * x3) + (Int32.ofInt 1)) S) (Int32.ofInt 0))) 168 x3.toInt.toNat (f_X12_lower (f_X12_byteAt (((Int32.ofInt 3) * x3) + (Int32.ofInt 2)) (z_s S 167 x3.toInt.toNat (f_X12_higher (f_X12_byteAt (((Int32.ofInt 3) * x3) + (Int32.ofInt 1)) S) (Int32.ofInt 0)))) (Int32.ofInt 250))) R _
          refine u_getr rfl v_tyM rfl ?_
          refine u_st rfl (fun _ => rfl) ?_
          show u_P L xs m d m_X12_laysAhead 121 [(4, .int (Int32.ofInt 500000000)), (0, .ref 100), (1, .int x1), (2, .int x2), (3, .int x3)] [.int x3, .ref 169, .int (f_X12_higher (f_X12_byteAt (((Int32.ofInt 3) * x3) + (Int32.ofInt 1)) S) (Int32.ofInt 0))] (z_s (z_s S 167 x3.toInt.toNat (f_X12_higher (f_X12_byteAt (((Int32.ofInt 3) * x3) + (Int32.ofInt 1)) S) (Int32.ofInt 0))) 168 x3.toInt.toNat (f_X12_lower (f_X12_byteAt (((Int32.ofInt 3) * x3) + (Int32.ofInt 2)) (z_s S 167 x3.toInt.toNat (f_X12_higher (f_X12_byteAt (((Int32.ofInt 3) * x3) + (Int32.ofInt 1)) S) (Int32.ofInt 0)))) (Int32.ofInt 250))) R _
          refine u_ialdE (v := f_X12_lower (f_X12_byteAt (((Int32.ofInt 3) * x3) + (Int32.ofInt 2)) (z_s S 167 x3.toInt.toNat (f_X12_higher (f_X12_byteAt (((Int32.ofInt 3) * x3) + (Int32.ofInt 1)) S) (Int32.ofInt 0)))) (Int32.ofInt 250)) rfl rfl z_ss (fun b171 b172 => ?_)
          have hD := hD b171 b172
          show u_P L xs m d m_X12_laysAhead 122 [(4, .int (Int32.ofInt 500000000)), (0, .ref 100), (1, .int x1), (2, .int x2), (3, .int x3)] [.int (f_X12_lower (f_X12_byteAt (((Int32.ofInt 3) * x3) + (Int32.ofInt 2)) (z_s S 167 x3.toInt.toNat (f_X12_higher (f_X12_byteAt (((Int32.ofInt 3) * x3) + (Int32.ofInt 1)) S) (Int32.ofInt 0)))) (Int32.ofInt 250)), .int (f_X12_higher (f_X12_byteAt (((Int32.ofInt 3) * x3) + (Int32.ofInt 1)) S) (Int32.ofInt 0))] (z_s (z_s S 167 x3.toInt.toNat (f_X12_higher (f_X12_byteAt (((Int32.ofInt 3) * x3) + (Int32.ofInt 1)) S) (Int32.ofInt 0))) 168 x3.toInt.toNat (f_X12_lower (f_X12_byteAt (((Int32.ofInt 3) * x3) + (Int32.ofInt 2)) (z_s S 167 x3.toInt.toNat (f_X12_higher (f_X12_byteAt (((Int32.ofInt 3) * x3) + (Int32.ofInt 1)) S) (Int32.ofInt 0)))) (Int32.ofInt 250))) R _
          refine u_ic_le rfl (fun h18 => ?_) (fun h18 => ?_)
          · have hD := hD.1 h18
            show u_P L xs m d m_X12_laysAhead 127 [(4, .int (Int32.ofInt 500000000)), (0, .ref 100), (1, .int x1), (2, .int x2), (3, .int x3)] [] (z_s (z_s S 167 x3.toInt.toNat (f_X12_higher (f_X12_byteAt (((Int32.ofInt 3) * x3) + (Int32.ofInt 1)) S) (Int32.ofInt 0))) 168 x3.toInt.toNat (f_X12_lower (f_X12_byteAt (((Int32.ofInt 3) * x3) + (Int32.ofInt 2)) (z_s S 167 x3.toInt.toNat (f_X12_higher (f_X12_byteAt (((Int32.ofInt 3) * x3) + (Int32.ofInt 1)) S) (Int32.ofInt 0)))) (Int32.ofInt 250))) R _
            refine u_st rfl (fun _ => rfl) ?_
            refine u_st rfl (fun _ => rfl) ?_
            refine u_lc (b := [(0, .ref 100), (1, .int x1), (2, .int x2), (3, .int (x3 + (Int32.ofInt 1))), (4, .int (Int32.ofInt 500000000))]) (show ([3, 4, 0, 1, 2] : List Nat).Nodup by decide) (show ([0, 1, 2, 3, 4] : List Nat).Nodup by decide) (fun i => match i with | 0 => rfl | 1 => rfl | 2 => rfl | 3 => rfl | 4 => rfl | _ + 5 => rfl) ?_
            exact (ih m hm).2 d (Int32.ofInt 500000000) x1 x2 (x3 + (Int32.ofInt 1)) (z_s (z_s S 167 x3.toInt.toNat (f_X12_higher (f_X12_byteAt (((Int32.ofInt 3) * x3) + (Int32.ofInt 1)) S) (Int32.ofInt 0))) 168 x3.toInt.toNat (f_X12_lower (f_X12_byteAt (((Int32.ofInt 3) * x3) + (Int32.ofInt 2)) (z_s S 167 x3.toInt.toNat (f_X12_higher (f_X12_byteAt (((Int32.ofInt 3) * x3) + (Int32.ofInt 1)) S) (Int32.ofInt 0)))) (Int32.ofInt 250))) hD
          · have hD := hD.2 h18
            show u_P L xs m d m_X12_laysAhead 125 [(4, .int (Int32.ofInt 500000000)), (0, .ref 100), (1, .int x1), (2, .int x2), (3, .int x3)] [] (z_s (z_s S 167 x3.toInt.toNat (f_X12_higher (f_X12_byteAt (((Int32.ofInt 3) * x3) + (Int32.ofInt 1)) S) (Int32.ofInt 0))) 168 x3.toInt.toNat (f_X12_lower (f_X12_byteAt (((Int32.ofInt 3) * x3) + (Int32.ofInt 2)) (z_s S 167 x3.toInt.toNat (f_X12_higher (f_X12_byteAt (((Int32.ofInt 3) * x3) + (Int32.ofInt 1)) S) (Int32.ofInt 0)))) (Int32.ofInt 250))) R _
            refine u_st rfl (fun _ => rfl) ?_
            show u_P L xs m d m_X12_laysAhead 126 [(4, .int (Int32.ofInt 500000000)), (0, .ref 100), (1, .int x1), (2, .int x2), (3, .int x3)] [.int (Int32.ofInt 0)] (z_s (z_s S 167 x3.toInt.toNat (f_X12_higher (f_X12_byteAt (((Int32.ofInt 3) * x3) + (Int32.ofInt 1)) S) (Int32.ofInt 0))) 168 x3.toInt.toNat (f_X12_lower (f_X12_byteAt (((Int32.ofInt 3) * x3) + (Int32.ofInt 2)) (z_s S 167 x3.toInt.toNat (f_X12_higher (f_X12_byteAt (((Int32.ofInt 3) * x3) + (Int32.ofInt 1)) S) (Int32.ofInt 0)))) (Int32.ofInt 250))) R _
            exact u_retb rfl rfl ⟨_, rfl, rfl, hD⟩
set_option maxRecDepth 4000 in
theorem w_X12_laysAhead (L : Nat) (xs : Nat → Int32) {R : v_Rf} (a : Int32) (b : Int32) (H2 : Int32 → Int32 → Int32 → v_Sf → Prop) (K : Int32 → v_Sf → Prop) (k2 : ∀ (x1 : Int32) (x2 : Int32) (x3 : Int32) (S : v_Sf), H2 x1 x2 x3 S → D_X12_laysAhead_2 H2 K x1 x2 x3 S) (n d : Nat) (S : v_Sf) (hD : D_X12_laysAhead a b H2 K S) : u_P L xs n d m_X12_laysAhead 0 (lv_args 0 [.ref 100, .int a, .int b]) [] S R (z_Q R K) := by
  unfold D_X12_laysAhead at hD
  show u_P L xs n d m_X12_laysAhead 0 [(0, .ref 100), (1, .int a), (2, .int b)] [] S R _
  refine u_st rfl (fun _ => rfl) ?_
  refine u_st rfl (fun _ => rfl) ?_
  refine u_lc (b := [(0, .ref 100), (1, .int a), (2, .int b), (3, .int (Int32.ofInt 0))]) (show ([3, 0, 1, 2] : List Nat).Nodup by decide) (show ([0, 1, 2, 3] : List Nat).Nodup by decide) (fun i => match i with | 0 => rfl | 1 => rfl | 2 => rfl | 3 => rfl | _ + 4 => rfl) ?_
  exact (hd_X12_laysAhead L xs a b H2 K k2 n).1 d a b (Int32.ofInt 0) S hD
noncomputable def r_X12_laysAhead_2 (x1 : Int32) (x2 : Int32) : Nat → Nat → v_Sf → Int32 × v_Sf
  | 0, k2, S => (Int32.ofInt 1, S)
  | r + 1, k2, S => (if ¬ (z_i k2) = 0 then (if (f_X12_higher (f_X12_byteAt (((Int32.ofInt 3) * (z_i k2)) + (Int32.ofInt 1)) S) ((S 167 (((z_i k2) - (Int32.ofInt 1)).toInt.toNat)) - (x2 * ((f_X12_hourOf (z_i k2) S) - (f_X12_hourOf ((z_i k2) - (Int32.ofInt 1)) S))))) ≤ (f_X12_lower (f_X12_byteAt (((Int32.ofInt 3) * (z_i k2)) + (Int32.ofInt 2)) (z_s S 167 (z_i k2).toInt.toNat (f_X12_higher (f_X12_byteAt (((Int32.ofInt 3) * (z_i k2)) + (Int32.ofInt 1)) S) ((S 167 (((z_i k2) - (Int32.ofInt 1)).toInt.toNat)) - (x2 * ((f_X12_hourOf (z_i k2) S) - (f_X12_hourOf ((z_i k2) - (Int32.ofInt 1)) S))))))) ((S 168 (((z_i k2) - (Int32.ofInt 1)).toInt.toNat)) + (x2 * ((f_X12_hourOf (z_i k2) S) - (f_X12_hourOf ((z_i k2) - (Int32.ofInt 1)) S))))) then r_X12_laysAhead_2 x1 x2 r (k2 + 1) (z_s (z_s S 167 (z_i k2).toInt.toNat (f_X12_higher (f_X12_byteAt (((Int32.ofInt 3) * (z_i k2)) + (Int32.ofInt 1)) S) ((S 167 (((z_i k2) - (Int32.ofInt 1)).toInt.toNat)) - (x2 * ((f_X12_hourOf (z_i k2) S) - (f_X12_hourOf ((z_i k2) - (Int32.ofInt 1)) S)))))) 168 (z_i k2).toInt.toNat (f_X12_lower (f_X12_byteAt (((Int32.ofInt 3) * (z_i k2)) + (Int32.ofInt 2)) (z_s S 167 (z_i k2).toInt.toNat (f_X12_higher (f_X12_byteAt (((Int32.ofInt 3) * (z_i k2)) + (Int32.ofInt 1)) S) ((S 167 (((z_i k2) - (Int32.ofInt 1)).toInt.toNat)) - (x2 * ((f_X12_hourOf (z_i k2) S) - (f_X12_hourOf ((z_i k2) - (Int32.ofInt 1)) S))))))) ((S 168 (((z_i k2) - (Int32.ofInt 1)).toInt.toNat)) + (x2 * ((f_X12_hourOf (z_i k2) S) - (f_X12_hourOf ((z_i k2) - (Int32.ofInt 1)) S)))))) else (Int32.ofInt 0, z_s (z_s S 167 (z_i k2).toInt.toNat (f_X12_higher (f_X12_byteAt (((Int32.ofInt 3) * (z_i k2)) + (Int32.ofInt 1)) S) ((S 167 (((z_i k2) - (Int32.ofInt 1)).toInt.toNat)) - (x2 * ((f_X12_hourOf (z_i k2) S) - (f_X12_hourOf ((z_i k2) - (Int32.ofInt 1)) S)))))) 168 (z_i k2).toInt.toNat (f_X12_lower (f_X12_byteAt (((Int32.ofInt 3) * (z_i k2)) + (Int32.ofInt 2)) (z_s S 167 (z_i k2).toInt.toNat (f_X12_higher (f_X12_byteAt (((Int32.ofInt 3) * (z_i k2)) + (Int32.ofInt 1)) S) ((S 167 (((z_i k2) - (Int32.ofInt 1)).toInt.toNat)) - (x2 * ((f_X12_hourOf (z_i k2) S) - (f_X12_hourOf ((z_i k2) - (Int32.ofInt 1)) S))))))) ((S 168 (((z_i k2) - (Int32.ofInt 1)).toInt.toNat)) + (x2 * ((f_X12_hourOf (z_i k2) S) - (f_X12_hourOf ((z_i k2) - (Int32.ofInt 1)) S))))))) else (if (f_X12_higher (f_X12_byteAt (((Int32.ofInt 3) * (z_i k2)) + (Int32.ofInt 1)) S) (Int32.ofInt 0)) ≤ (f_X12_lower (f_X12_byteAt (((Int32.ofInt 3) * (z_i k2)) + (Int32.ofInt 2)) (z_s S 167 (z_i k2).toInt.toNat (f_X12_higher (f_X12_byteAt (((Int32.ofInt 3) * (z_i k2)) + (Int32.ofInt 1)) S) (Int32.ofInt 0)))) (Int32.ofInt 250)) then r_X12_laysAhead_2 x1 x2 r (k2 + 1) (z_s (z_s S 167 (z_i k2).toInt.toNat (f_X12_higher (f_X12_byteAt (((Int32.ofInt 3) * (z_i k2)) + (Int32.ofInt 1)) S) (Int32.ofInt 0))) 168 (z_i k2).toInt.toNat (f_X12_lower (f_X12_byteAt (((Int32.ofInt 3) * (z_i k2)) + (Int32.ofInt 2)) (z_s S 167 (z_i k2).toInt.toNat (f_X12_higher (f_X12_byteAt (((Int32.ofInt 3) * (z_i k2)) + (Int32.ofInt 1)) S) (Int32.ofInt 0)))) (Int32.ofInt 250))) else (Int32.ofInt 0, z_s (z_s S 167 (z_i k2).toInt.toNat (f_X12_higher (f_X12_byteAt (((Int32.ofInt 3) * (z_i k2)) + (Int32.ofInt 1)) S) (Int32.ofInt 0))) 168 (z_i k2).toInt.toNat (f_X12_lower (f_X12_byteAt (((Int32.ofInt 3) * (z_i k2)) + (Int32.ofInt 2)) (z_s S 167 (z_i k2).toInt.toNat (f_X12_higher (f_X12_byteAt (((Int32.ofInt 3) * (z_i k2)) + (Int32.ofInt 1)) S) (Int32.ofInt 0)))) (Int32.ofInt 250)))))
noncomputable def F_X12_laysAhead (a : Int32) (b : Int32) (S : v_Sf) : Int32 × v_Sf := r_X12_laysAhead_2 a b (a.toInt.toNat - 0) 0 S
noncomputable def f_X12_laysAhead (a : Int32) (b : Int32) (S : v_Sf) : Int32 := (F_X12_laysAhead a b S).1
noncomputable def g_X12_laysAhead (a : Int32) (b : Int32) (S : v_Sf) : v_Sf := (F_X12_laysAhead a b S).2
theorem c_X12_laysAhead (L : Nat) (xs : Nat → Int32) (n d : Nat) (a : Int32) (b : Int32) (S : v_Sf) (R : v_Rf) : u_P L xs n d m_X12_laysAhead 0 (lv_args 0 [.ref 100, .int a, .int b]) [] S R (z_Q R (fun v S1 => f_X12_laysAhead a b S = v ∧ g_X12_laysAhead a b S = S1)) := by
  refine w_X12_laysAhead L xs a b (fun y1 y2 y3 T => ∃ (k2 : Nat), k2 ≤ a.toInt.toNat ∧ z_i k2 = y3 ∧ a = y1 ∧ b = y2 ∧ r_X12_laysAhead_2 a b (a.toInt.toNat - k2) k2 T = F_X12_laysAhead a b S) (fun v S1 => f_X12_laysAhead a b S = v ∧ g_X12_laysAhead a b S = S1) ?_ n d S ?_
  · rintro _ _ _ S1 ⟨k2, hkk, rfl, rfl, rfl, e⟩
    unfold D_X12_laysAhead_2
    rcases Nat.lt_or_ge k2 (a.toInt.toNat) with hk | hk
    · rw [show a.toInt.toNat - k2 = (a.toInt.toNat - (k2 + 1)) + 1 by omega, r_X12_laysAhead_2] at e
      refine ⟨fun q1 => ?_, fun q1 => ?_⟩
      · exact absurd hk (Nat.not_lt.mpr (z_leV q1 (by omega)))
      · refine ⟨fun q2 => ?_, fun q2 => ?_⟩
        · intro _ _
          intro _ _
          intro _ _
          intro _ _
          intro _ _
          intro _ _
          refine ⟨fun q3 => ?_, fun q3 => ?_⟩
          · rw [if_pos q2, if_pos q3] at e
            exact ⟨(k2 + 1), by omega, (z_i1 k2).symm, rfl, rfl, e⟩
          · rw [if_pos q2, if_neg q3] at e
            have e1 := congrArg Prod.fst e.symm
            have e2 := congrArg Prod.snd e.symm
            exact ⟨e1, e2⟩
        · intro _ _
          intro _ _
          intro _ _
          intro _ _
          refine ⟨fun q4 => ?_, fun q4 => ?_⟩
          · rw [if_neg q2, if_pos q4] at e
            exact ⟨(k2 + 1), by omega, (z_i1 k2).symm, rfl, rfl, e⟩
          · rw [if_neg q2, if_neg q4] at e
            have e1 := congrArg Prod.fst e.symm
            have e2 := congrArg Prod.snd e.symm
            exact ⟨e1, e2⟩
    · rw [show a.toInt.toNat - k2 = 0 by omega, r_X12_laysAhead_2] at e
      refine ⟨fun q5 => ?_, fun q5 => ?_⟩
      · have e1 := congrArg Prod.fst e.symm
        have e2 := congrArg Prod.snd e.symm
        exact ⟨e1, e2⟩
      · exact absurd hk (Nat.not_le.mpr (z_ltV q5 (by omega)))
  · unfold D_X12_laysAhead
    have e : r_X12_laysAhead_2 a b (a.toInt.toNat - 0) 0 S = F_X12_laysAhead a b S := by rw [F_X12_laysAhead]
    exact ⟨0, by omega, rfl, rfl, rfl, e⟩
noncomputable abbrev m_X12_laysBehind : g_M := (g_cn 12, yX12_laysBehind, cX12_laysBehind, 5, none, g_look2 ttX12_laysBehind)
set_option maxRecDepth 20000 in
theorem mt_X12_laysBehind : g_mt 284 = some m_X12_laysBehind := rfl
noncomputable def D_X12_laysBehind_4  (H4 : Int32 → Int32 → Int32 → v_Sf → Prop) (K : v_Sf → Prop) (x1 : Int32) (x2 : Int32) (x3 : Int32) (S : v_Sf) : Prop := ((x3 < 0 → K S) ∧ (¬ (x3 < 0) → (((¬ x3 = (x1 - (Int32.ofInt 1))) → (0 ≤ (x3 + (Int32.ofInt 1)).toInt → (x3 + (Int32.ofInt 1)).toInt < 8 → (0 ≤ x3.toInt → x3.toInt < 8 → (0 ≤ (x3 + (Int32.ofInt 1)).toInt → (x3 + (Int32.ofInt 1)).toInt < 8 → (0 ≤ x3.toInt → x3.toInt < 8 → H4 x1 x2 (x3 + (Int32.ofInt (-1))) (z_s (z_s S 169 x3.toInt.toNat (f_X12_higher (f_X12_byteAt (((Int32.ofInt 3) * x3) + (Int32.ofInt 1)) S) ((S 169 ((x3 + (Int32.ofInt 1)).toInt.toNat)) - (x2 * ((f_X12_hourOf (x3 + (Int32.ofInt 1)) S) - (f_X12_hourOf x3 S)))))) 170 x3.toInt.toNat (f_X12_lower (f_X12_byteAt (((Int32.ofInt 3) * x3) + (Int32.ofInt 2)) (z_s S 169 x3.toInt.toNat (f_X12_higher (f_X12_byteAt (((Int32.ofInt 3) * x3) + (Int32.ofInt 1)) S) ((S 169 ((x3 + (Int32.ofInt 1)).toInt.toNat)) - (x2 * ((f_X12_hourOf (x3 + (Int32.ofInt 1)) S) - (f_X12_hourOf x3 S))))))) ((S 170 ((x3 + (Int32.ofInt 1)).toInt.toNat)) + (x2 * ((f_X12_hourOf (x3 + (Int32.ofInt 1)) S) - (f_X12_hourOf x3 S))))))))))) ∧ (¬ (¬ x3 = (x1 - (Int32.ofInt 1))) → (0 ≤ x3.toInt → x3.toInt < 8 → (0 ≤ x3.toInt → x3.toInt < 8 → H4 x1 x2 (x3 + (Int32.ofInt (-1))) (z_s (z_s S 169 x3.toInt.toNat (f_X12_higher (f_X12_byteAt (((Int32.ofInt 3) * x3) + (Int32.ofInt 1)) S) (Int32.ofInt 0))) 170 x3.toInt.toNat (f_X12_lower (f_X12_byteAt (((Int32.ofInt 3) * x3) + (Int32.ofInt 2)) (z_s S 169 x3.toInt.toNat (f_X12_higher (f_X12_byteAt (((Int32.ofInt 3) * x3) + (Int32.ofInt 1)) S) (Int32.ofInt 0)))) (Int32.ofInt 250)))))))))
noncomputable def D_X12_laysBehind (a : Int32) (b : Int32) (H4 : Int32 → Int32 → Int32 → v_Sf → Prop) (K : v_Sf → Prop) (S : v_Sf) : Prop := H4 a b (a - (Int32.ofInt 1)) S
set_option maxRecDepth 4000 in
theorem hd_X12_laysBehind (L : Nat) (xs : Nat → Int32) {R : v_Rf} (a : Int32) (b : Int32) (H4 : Int32 → Int32 → Int32 → v_Sf → Prop) (K : v_Sf → Prop) (k4 : ∀ (x1 : Int32) (x2 : Int32) (x3 : Int32) (S : v_Sf), H4 x1 x2 x3 S → D_X12_laysBehind_4 H4 K x1 x2 x3 S) : ∀ n, (∀ (d : Nat) (x1 : Int32) (x2 : Int32) (x3 : Int32) (S : v_Sf), H4 x1 x2 x3 S → u_P L xs n d m_X12_laysBehind 4 [(0, .ref 100), (1, .int x1), (2, .int x2), (3, .int x3)] [] S R (z_V R K)) ∧ (∀ (d : Nat) (j4 : Int32) (x1 : Int32) (x2 : Int32) (x3 : Int32) (S : v_Sf), H4 x1 x2 x3 S → u_P L xs n d m_X12_laysBehind 4 [(0, .ref 100), (1, .int x1), (2, .int x2), (3, .int x3), (4, .int j4)] [] S R (z_V R K)) := by
  intro n
  induction n using Nat.strongRecOn with
  | ind n ih =>
    refine ⟨?_, ?_⟩
    · intro d x1 x2 x3 S hD
      have hD := k4 x1 x2 x3 S hD
      unfold D_X12_laysBehind_4 at hD
      show u_P L xs n d m_X12_laysBehind 4 [(0, .ref 100), (1, .int x1), (2, .int x2), (3, .int x3)] [] S R _
      refine u_st1 rfl (fun _ => rfl) (fun m hm => ?_)
      show u_P L xs m d m_X12_laysBehind 5 [(0, .ref 100), (1, .int x1), (2, .int x2), (3, .int x3)] [.int x3] S R _
      refine u_if_lt rfl (fun h1 => ?_) (fun h1 => ?_)
      · have hD := hD.1 h1
        show u_P L xs m d m_X12_laysBehind 124 [(0, .ref 100), (1, .int x1), (2, .int x2), (3, .int x3)] [] S R _
        exact u_ret rfl rfl ⟨rfl, rfl, hD⟩
      · have hD := hD.2 h1
        show u_P L xs m d m_X12_laysBehind 8 [(0, .ref 100), (1, .int x1), (2, .int x2), (3, .int x3)] [] S R _
        refine u_st rfl (fun _ => rfl) ?_
        refine u_st rfl (fun _ => rfl) ?_
        refine u_st rfl (fun _ => rfl) ?_
        refine u_st rfl (fun _ => rfl) ?_
        show u_P L xs m d m_X12_laysBehind 12 [(0, .ref 100), (1, .int x1), (2, .int x2), (3, .int x3)] [.int (x1 - (Int32.ofInt 1)), .int x3] S R _
        refine u_ic_ne rfl (fun h2 => ?_) (fun h2 => ?_)
        · have hD := hD.1 h2
          show u_P L xs m d m_X12_laysBehind 19 [(0, .ref 100), (1, .int x1), (2, .int x2), (3, .int x3)] [] S R _
          refine u_st rfl (fun _ => rfl) ?_
          refine u_st rfl (fun _ => rfl) ?_
          refine u_st rfl (fun _ => rfl) ?_
          refine u_st rfl (fun _ => rfl) ?_
          refine u_st rfl (fun _ => rfl) ?_
          show u_P L xs m d m_X12_laysBehind 24 [(0, .ref 100), (1, .int x1), (2, .int x2), (3, .int x3)] [.int (x3 + (Int32.ofInt 1)), .ref 100, .int x2] S R _
          refine u_cv (rest := [.int x2]) rfl (by decide) mt_X12_hourOf v_tyM rfl rfl rfl (Nat.le_of_ble_eq_true rfl) (Nat.le_of_ble_eq_true rfl) (Nat.le_of_ble_eq_true rfl) (fun d' => c_X12_hourOf L xs m d' (x3 + (Int32.ofInt 1)) S R) ?_
          rintro _ _ _ ⟨_, rfl, rfl, rfl, rfl⟩
          refine u_st rfl (fun _ => rfl) ?_
          refine u_st rfl (fun _ => rfl) ?_
          show u_P L xs m d m_X12_laysBehind 29 [(0, .ref 100), (1, .int x1), (2, .int x2), (3, .int x3)] [.int x3, .ref 100, .int (f_X12_hourOf (x3 + (Int32.ofInt 1)) S), .int x2] S R _
          refine u_cv (rest := [.int (f_X12_hourOf (x3 + (Int32.ofInt 1)) S), .int x2]) rfl (by decide) mt_X12_hourOf v_tyM rfl rfl rfl (Nat.le_of_ble_eq_true rfl) (Nat.le_of_ble_eq_true rfl) (Nat.le_of_ble_eq_true rfl) (fun d' => c_X12_hourOf L xs m d' x3 S R) ?_
          rintro _ _ _ ⟨_, rfl, rfl, rfl, rfl⟩
          refine u_st rfl (fun _ => rfl) ?_
          refine u_st rfl (fun _ => rfl) ?_
          refine u_st rfl (fun _ => rfl) ?_
          refine u_st rfl (fun _ => rfl) ?_
          show u_P L xs m d m_X12_laysBehind 37 [(4, .int (x2 * ((f_X12_hourOf (x3 + (Int32.ofInt 1)) S) - (f_X12_hourOf x3 S)))), (0, .ref 100), (1, .int x1), (2, .int x2), (3, .int x3)] [.ref 100] S R _
          refine u_getr rfl v_tyM rfl ?_
          refine u_st rfl (fun _ => rfl) ?_
          refine u_st rfl (fun _ => rfl) ?_
          refine u_st rfl (fun _ => rfl) ?_
          refine u_st rfl (fun _ => rfl) ?_
          refine u_st rfl (fun _ => rfl) ?_
          refine u_st rfl (fun _ => rfl) ?_
          refine u_st rfl (fun _ => rfl) ?_
          show u_P L xs m d m_X12_laysBehind 47 [(4, .int (x2 * ((f_X12_hourOf (x3 + (Int32.ofInt 1)) S) - (f_X12_hourOf x3 S)))), (0, .ref 100), (1, .int x1), (2, .int x2), (3, .int x3)] [.int (((Int32.ofInt 3) * x3) + (Int32.ofInt 1)), .ref 100, .int x3, .ref 170] S R _
          refine u_cv (rest := [.int x3, .ref 170]) rfl (by decide) mt_X12_byteAt v_tyM rfl rfl rfl (Nat.le_of_ble_eq_true rfl) (Nat.le_of_ble_eq_true rfl) (Nat.le_of_ble_eq_true rfl) (fun d' => c_X12_byteAt L xs m d' (((Int32.ofInt 3) * x3) + (Int32.ofInt 1)) S R) ?_
          rintro _ _ _ ⟨_, rfl, rfl, rfl, rfl⟩
          refine u_st rfl (fun _ => rfl) ?_
          refine u_st rfl (fun _ => rfl) ?_
          refine u_st rfl (fun _ => rfl) ?_
          refine u_st rfl (fun _ => rfl) ?_
          show u_P L xs m d m_X12_laysBehind 54 [(4, .int (x2 * ((f_X12_hourOf (x3 + (Int32.ofInt 1)) S) - (f_X12_hourOf x3 S)))), (0, .ref 100), (1, .int x1), (2, .int x2), (3, .int x3)] [.int (x1 - (Int32.ofInt 1)), .int x3, .int (f_X12_byteAt (((Int32.ofInt 3) * x3) + (Int32.ofInt 1)) S), .int x3, .ref 170] S R _
          refine u_ic_ne rfl (fun _ => ?_) (fun h3 => absurd h2 h3)
          show u_P L xs m d m_X12_laysBehind 61 [(4, .int (x2 * ((f_X12_hourOf (x3 + (Int32.ofInt 1)) S) - (f_X12_hourOf x3 S)))), (0, .ref 100), (1, .int x1), (2, .int x2), (3, .int x3)] [.int (f_X12_byteAt (((Int32.ofInt 3) * x3) + (Int32.ofInt 1)) S), .int x3, .ref 170] S R _
          refine u_st rfl (fun _ => rfl) ?_
          show u_P L xs m d m_X12_laysBehind 62 [(4, .int (x2 * ((f_X12_hourOf (x3 + (Int32.ofInt 1)) S) - (f_X12_hourOf x3 S)))), (0, .ref 100), (1, .int x1), (2, .int x2), (3, .int x3)] [.ref 100, .int (f_X12_byteAt (((Int32.ofInt 3) * x3) + (Int32.ofInt 1)) S), .int x3, .ref 170] S R _
          refine u_getr rfl v_tyM rfl ?_
          refine u_st rfl (fun _ => rfl) ?_
          refine u_st rfl (fun _ => rfl) ?_
          refine u_st rfl (fun _ => rfl) ?_
          show u_P L xs m d m_X12_laysBehind 68 [(4, .int (x2 * ((f_X12_hourOf (x3 + (Int32.ofInt 1)) S) - (f_X12_hourOf x3 S)))), (0, .ref 100), (1, .int x1), (2, .int x2), (3, .int x3)] [.int (x3 + (Int32.ofInt 1)), .ref 170, .int (f_X12_byteAt (((Int32.ofInt 3) * x3) + (Int32.ofInt 1)) S), .int x3, .ref 170] S R _
          refine u_ialdE (v := S 169 ((x3 + (Int32.ofInt 1)).toInt.toNat)) rfl rfl rfl (fun b41 b42 => ?_)
          have hD := hD b41 b42
          show u_P L xs m d m_X12_laysBehind 69 [(4, .int (x2 * ((f_X12_hourOf (x3 + (Int32.ofInt 1)) S) - (f_X12_hourOf x3 S)))), (0, .ref 100), (1, .int x1), (2, .int x2), (3, .int x3)] [.int (S 169 ((x3 + (Int32.ofInt 1)).toInt.toNat)), .int (f_X12_byteAt (((Int32.ofInt 3) * x3) + (Int32.ofInt 1)) S), .int x3, .ref 170] S R _
          refine u_st rfl (fun _ => rfl) ?_
          refine u_st rfl (fun _ => rfl) ?_
          show u_P L xs m d m_X12_laysBehind 72 [(4, .int (x2 * ((f_X12_hourOf (x3 + (Int32.ofInt 1)) S) - (f_X12_hourOf x3 S)))), (0, .ref 100), (1, .int x1), (2, .int x2), (3, .int x3)] [.int ((S 169 ((x3 + (Int32.ofInt 1)).toInt.toNat)) - (x2 * ((f_X12_hourOf (x3 + (Int32.ofInt 1)) S) - (f_X12_hourOf x3 S)))), .int (f_X12_byteAt (((Int32.ofInt 3) * x3) + (Int32.ofInt 1)) S), .int x3, .ref 170] S R _
          refine u_cs (ac := [.int (f_X12_byteAt (((Int32.ofInt 3) * x3) + (Int32.ofInt 1)) S), .int ((S 169 ((x3 + (Int32.ofInt 1)).toInt.toNat)) - (x2 * ((f_X12_hourOf (x3 + (Int32.ofInt 1)) S) - (f_X12_hourOf x3 S))))]) (rest := [.int x3, .ref 170]) rfl (by decide) mt_X12_higher (fun _ => rfl) (Nat.le_of_ble_eq_true rfl) (Nat.le_of_ble_eq_true rfl) (fun d' => c_X12_higher L xs m d' (f_X12_byteAt (((Int32.ofInt 3) * x3) + (Int32.ofInt 1)) S) ((S 169 ((x3 + (Int32.ofInt 1)).toInt.toNat)) - (x2 * ((f_X12_hourOf (x3 + (Int32.ofInt 1)) S) - (f_X12_hourOf x3 S)))) S R) ?_
          rintro _ _ _ ⟨_, rfl, rfl, rfl, rfl⟩
          show u_P L xs m d m_X12_laysBehind 75 [(4, .int (x2 * ((f_X12_hourOf (x3 + (Int32.ofInt 1)) S) - (f_X12_hourOf x3 S)))), (0, .ref 100), (1, .int x1), (2, .int x2), (3, .int x3)] [.int (f_X12_higher (f_X12_byteAt (((Int32.ofInt 3) * x3) + (Int32.ofInt 1)) S) ((S 169 ((x3 + (Int32.ofInt 1)).toInt.toNat)) - (x2 * ((f_X12_hourOf (x3 + (Int32.ofInt 1)) S) - (f_X12_hourOf x3 S))))), .int x3, .ref 170] S R _
          refine u_iast rfl rfl (fun b51 b52 => ?_)
          have hD := hD b51 b52
          show u_P L xs m d m_X12_laysBehind 76 [(4, .int (x2 * ((f_X12_hourOf (x3 + (Int32.ofInt 1)) S) - (f_X12_hourOf x3 S)))), (0, .ref 100), (1, .int x1), (2, .int x2), (3, .int x3)] [] (z_s S 169 x3.toInt.toNat (f_X12_higher (f_X12_byteAt (((Int32.ofInt 3) * x3) + (Int32.ofInt 1)) S) ((S 169 ((x3 + (Int32.ofInt 1)).toInt.toNat)) - (x2 * ((f_X12_hourOf (x3 + (Int32.ofInt 1)) S) - (f_X12_hourOf x3 S)))))) R _
          refine u_st rfl (fun _ => rfl) ?_
          show u_P L xs m d m_X12_laysBehind 77 [(4, .int (x2 * ((f_X12_hourOf (x3 + (Int32.ofInt 1)) S) - (f_X12_hourOf x3 S)))), (0, .ref 100), (1, .int x1), (2, .int x2), (3, .int x3)] [.ref 100] (z_s S 169 x3.toInt.toNat (f_X12_higher (f_X12_byteAt (((Int32.ofInt 3) * x3) + (Int32.ofInt 1)) S) ((S 169 ((x3 + (Int32.ofInt 1)).toInt.toNat)) - (x2 * ((f_X12_hourOf (x3 + (Int32.ofInt 1)) S) - (f_X12_hourOf x3 S)))))) R _
          refine u_getr rfl v_tyM rfl ?_
          refine u_st rfl (fun _ => rfl) ?_
          refine u_st rfl (fun _ => rfl) ?_
          refine u_st rfl (fun _ => rfl) ?_
          refine u_st rfl (fun _ => rfl) ?_
          refine u_st rfl (fun _ => rfl) ?_
          refine u_st rfl (fun _ => rfl) ?_
          refine u_st rfl (fun _ => rfl) ?_
          show u_P L xs m d m_X12_laysBehind 87 [(4, .int (x2 * ((f_X12_hourOf (x3 + (Int32.ofInt 1)) S) - (f_X12_hourOf x3 S)))), (0, .ref 100), (1, .int x1), (2, .int x2), (3, .int x3)] [.int (((Int32.ofInt 3) * x3) + (Int32.ofInt 2)), .ref 100, .int x3, .ref 171] (z_s S 169 x3.toInt.toNat (f_X12_higher (f_X12_byteAt (((Int32.ofInt 3) * x3) + (Int32.ofInt 1)) S) ((S 169 ((x3 + (Int32.ofInt 1)).toInt.toNat)) - (x2 * ((f_X12_hourOf (x3 + (Int32.ofInt 1)) S) - (f_X12_hourOf x3 S)))))) R _
          refine u_cv (rest := [.int x3, .ref 171]) rfl (by decide) mt_X12_byteAt v_tyM rfl rfl rfl (Nat.le_of_ble_eq_true rfl) (Nat.le_of_ble_eq_true rfl) (Nat.le_of_ble_eq_true rfl) (fun d' => c_X12_byteAt L xs m d' (((Int32.ofInt 3) * x3) + (Int32.ofInt 2)) (z_s S 169 x3.toInt.toNat (f_X12_higher (f_X12_byteAt (((Int32.ofInt 3) * x3) + (Int32.ofInt 1)) S) ((S 169 ((x3 + (Int32.ofInt 1)).toInt.toNat)) - (x2 * ((f_X12_hourOf (x3 + (Int32.ofInt 1)) S) - (f_X12_hourOf x3 S)))))) R) ?_
          rintro _ _ _ ⟨_, rfl, rfl, rfl, rfl⟩
          refine u_st rfl (fun _ => rfl) ?_
          refine u_st rfl (fun _ => rfl) ?_
          refine u_st rfl (fun _ => rfl) ?_
          refine u_st rfl (fun _ => rfl) ?_
          show u_P L xs m d m_X12_laysBehind 94 [(4, .int (x2 * ((f_X12_hourOf (x3 + (Int32.ofInt 1)) S) - (f_X12_hourOf x3 S)))), (0, .ref 100), (1, .int x1), (2, .int x2), (3, .int x3)] [.int (x1 - (Int32.ofInt 1)), .int x3, .int (f_X12_byteAt (((Int32.ofInt 3) * x3) + (Int32.ofInt 2)) (z_s S 169 x3.toInt.toNat (f_X12_higher (f_X12_byteAt (((Int32.ofInt 3) * x3) + (Int32.ofInt 1)) S) ((S 169 ((x3 + (Int32.ofInt 1)).toInt.toNat)) - (x2 * ((f_X12_hourOf (x3 + (Int32.ofInt 1)) S) - (f_X12_hourOf x3 S))))))), .int x3, .ref 171] (z_s S 169 x3.toInt.toNat (f_X12_higher (f_X12_byteAt (((Int32.ofInt 3) * x3) + (Int32.ofInt 1)) S) ((S 169 ((x3 + (Int32.ofInt 1)).toInt.toNat)) - (x2 * ((f_X12_hourOf (x3 + (Int32.ofInt 1)) S) - (f_X12_hourOf x3 S)))))) R _
          refine u_ic_ne rfl (fun _ => ?_) (fun h6 => absurd h2 h6)
          show u_P L xs m d m_X12_laysBehind 103 [(4, .int (x2 * ((f_X12_hourOf (x3 + (Int32.ofInt 1)) S) - (f_X12_hourOf x3 S)))), (0, .ref 100), (1, .int x1), (2, .int x2), (3, .int x3)] [.int (f_X12_byteAt (((Int32.ofInt 3) * x3) + (Int32.ofInt 2)) (z_s S 169 x3.toInt.toNat (f_X12_higher (f_X12_byteAt (((Int32.ofInt 3) * x3) + (Int32.ofInt 1)) S) ((S 169 ((x3 + (Int32.ofInt 1)).toInt.toNat)) - (x2 * ((f_X12_hourOf (x3 + (Int32.ofInt 1)) S) - (f_X12_hourOf x3 S))))))), .int x3, .ref 171] (z_s S 169 x3.toInt.toNat (f_X12_higher (f_X12_byteAt (((Int32.ofInt 3) * x3) + (Int32.ofInt 1)) S) ((S 169 ((x3 + (Int32.ofInt 1)).toInt.toNat)) - (x2 * ((f_X12_hourOf (x3 + (Int32.ofInt 1)) S) - (f_X12_hourOf x3 S)))))) R _
          refine u_st rfl (fun _ => rfl) ?_
          show u_P L xs m d m_X12_laysBehind 104 [(4, .int (x2 * ((f_X12_hourOf (x3 + (Int32.ofInt 1)) S) - (f_X12_hourOf x3 S)))), (0, .ref 100), (1, .int x1), (2, .int x2), (3, .int x3)] [.ref 100, .int (f_X12_byteAt (((Int32.ofInt 3) * x3) + (Int32.ofInt 2)) (z_s S 169 x3.toInt.toNat (f_X12_higher (f_X12_byteAt (((Int32.ofInt 3) * x3) + (Int32.ofInt 1)) S) ((S 169 ((x3 + (Int32.ofInt 1)).toInt.toNat)) - (x2 * ((f_X12_hourOf (x3 + (Int32.ofInt 1)) S) - (f_X12_hourOf x3 S))))))), .int x3, .ref 171] (z_s S 169 x3.toInt.toNat (f_X12_higher (f_X12_byteAt (((Int32.ofInt 3) * x3) + (Int32.ofInt 1)) S) ((S 169 ((x3 + (Int32.ofInt 1)).toInt.toNat)) - (x2 * ((f_X12_hourOf (x3 + (Int32.ofInt 1)) S) - (f_X12_hourOf x3 S)))))) R _
          refine u_getr rfl v_tyM rfl ?_
          refine u_st rfl (fun _ => rfl) ?_
          refine u_st rfl (fun _ => rfl) ?_
          refine u_st rfl (fun _ => rfl) ?_
          show u_P L xs m d m_X12_laysBehind 110 [(4, .int (x2 * ((f_X12_hourOf (x3 + (Int32.ofInt 1)) S) - (f_X12_hourOf x3 S)))), (0, .ref 100), (1, .int x1), (2, .int x2), (3, .int x3)] [.int (x3 + (Int32.ofInt 1)), .ref 171, .int (f_X12_byteAt (((Int32.ofInt 3) * x3) + (Int32.ofInt 2)) (z_s S 169 x3.toInt.toNat (f_X12_higher (f_X12_byteAt (((Int32.ofInt 3) * x3) + (Int32.ofInt 1)) S) ((S 169 ((x3 + (Int32.ofInt 1)).toInt.toNat)) - (x2 * ((f_X12_hourOf (x3 + (Int32.ofInt 1)) S) - (f_X12_hourOf x3 S))))))), .int x3, .ref 171] (z_s S 169 x3.toInt.toNat (f_X12_higher (f_X12_byteAt (((Int32.ofInt 3) * x3) + (Int32.ofInt 1)) S) ((S 169 ((x3 + (Int32.ofInt 1)).toInt.toNat)) - (x2 * ((f_X12_hourOf (x3 + (Int32.ofInt 1)) S) - (f_X12_hourOf x3 S)))))) R _
          refine u_ialdE (v := S 170 ((x3 + (Int32.ofInt 1)).toInt.toNat)) rfl rfl (z_sn (fun h => absurd h.1 (by decide))) (fun b71 b72 => ?_)
          have hD := hD b71 b72
          show u_P L xs m d m_X12_laysBehind 111 [(4, .int (x2 * ((f_X12_hourOf (x3 + (Int32.ofInt 1)) S) - (f_X12_hourOf x3 S)))), (0, .ref 100), (1, .int x1), (2, .int x2), (3, .int x3)] [.int (S 170 ((x3 + (Int32.ofInt 1)).toInt.toNat)), .int (f_X12_byteAt (((Int32.ofInt 3) * x3) + (Int32.ofInt 2)) (z_s S 169 x3.toInt.toNat (f_X12_higher (f_X12_byteAt (((Int32.ofInt 3) * x3) + (Int32.ofInt 1)) S) ((S 169 ((x3 + (Int32.ofInt 1)).toInt.toNat)) - (x2 * ((f_X12_hourOf (x3 + (Int32.ofInt 1)) S) - (f_X12_hourOf x3 S))))))), .int x3, .ref 171] (z_s S 169 x3.toInt.toNat (f_X12_higher (f_X12_byteAt (((Int32.ofInt 3) * x3) + (Int32.ofInt 1)) S) ((S 169 ((x3 + (Int32.ofInt 1)).toInt.toNat)) - (x2 * ((f_X12_hourOf (x3 + (Int32.ofInt 1)) S) - (f_X12_hourOf x3 S)))))) R _
          refine u_st rfl (fun _ => rfl) ?_
          refine u_st rfl (fun _ => rfl) ?_
          show u_P L xs m d m_X12_laysBehind 114 [(4, .int (x2 * ((f_X12_hourOf (x3 + (Int32.ofInt 1)) S) - (f_X12_hourOf x3 S)))), (0, .ref 100), (1, .int x1), (2, .int x2), (3, .int x3)] [.int ((S 170 ((x3 + (Int32.ofInt 1)).toInt.toNat)) + (x2 * ((f_X12_hourOf (x3 + (Int32.ofInt 1)) S) - (f_X12_hourOf x3 S)))), .int (f_X12_byteAt (((Int32.ofInt 3) * x3) + (Int32.ofInt 2)) (z_s S 169 x3.toInt.toNat (f_X12_higher (f_X12_byteAt (((Int32.ofInt 3) * x3) + (Int32.ofInt 1)) S) ((S 169 ((x3 + (Int32.ofInt 1)).toInt.toNat)) - (x2 * ((f_X12_hourOf (x3 + (Int32.ofInt 1)) S) - (f_X12_hourOf x3 S))))))), .int x3, .ref 171] (z_s S 169 x3.toInt.toNat (f_X12_higher (f_X12_byteAt (((Int32.ofInt 3) * x3) + (Int32.ofInt 1)) S) ((S 169 ((x3 + (Int32.ofInt 1)).toInt.toNat)) - (x2 * ((f_X12_hourOf (x3 + (Int32.ofInt 1)) S) - (f_X12_hourOf x3 S)))))) R _
          refine u_cs (ac := [.int (f_X12_byteAt (((Int32.ofInt 3) * x3) + (Int32.ofInt 2)) (z_s S 169 x3.toInt.toNat (f_X12_higher (f_X12_byteAt (((Int32.ofInt 3) * x3) + (Int32.ofInt 1)) S) ((S 169 ((x3 + (Int32.ofInt 1)).toInt.toNat)) - (x2 * ((f_X12_hourOf (x3 + (Int32.ofInt 1)) S) - (f_X12_hourOf x3 S))))))), .int ((S 170 ((x3 + (Int32.ofInt 1)).toInt.toNat)) + (x2 * ((f_X12_hourOf (x3 + (Int32.ofInt 1)) S) - (f_X12_hourOf x3 S))))]) (rest := [.int x3, .ref 171]) rfl (by decide) mt_X12_lower (fun _ => rfl) (Nat.le_of_ble_eq_true rfl) (Nat.le_of_ble_eq_true rfl) (fun d' => c_X12_lower L xs m d' (f_X12_byteAt (((Int32.ofInt 3) * x3) + (Int32.ofInt 2)) (z_s S 169 x3.toInt.toNat (f_X12_higher (f_X12_byteAt (((Int32.ofInt 3) * x3) + (Int32.ofInt 1)) S) ((S 169 ((x3 + (Int32.ofInt 1)).toInt.toNat)) - (x2 * ((f_X12_hourOf (x3 + (Int32.ofInt 1)) S) - (f_X12_hourOf x3 S))))))) ((S 170 ((x3 + (Int32.ofInt 1)).toInt.toNat)) + (x2 * ((f_X12_hourOf (x3 + (Int32.ofInt 1)) S) - (f_X12_hourOf x3 S)))) (z_s S 169 x3.toInt.toNat (f_X12_higher (f_X12_byteAt (((Int32.ofInt 3) * x3) + (Int32.ofInt 1)) S) ((S 169 ((x3 + (Int32.ofInt 1)).toInt.toNat)) - (x2 * ((f_X12_hourOf (x3 + (Int32.ofInt 1)) S) - (f_X12_hourOf x3 S)))))) R) ?_
          rintro _ _ _ ⟨_, rfl, rfl, rfl, rfl⟩
          show u_P L xs m d m_X12_laysBehind 117 [(4, .int (x2 * ((f_X12_hourOf (x3 + (Int32.ofInt 1)) S) - (f_X12_hourOf x3 S)))), (0, .ref 100), (1, .int x1), (2, .int x2), (3, .int x3)] [.int (f_X12_lower (f_X12_byteAt (((Int32.ofInt 3) * x3) + (Int32.ofInt 2)) (z_s S 169 x3.toInt.toNat (f_X12_higher (f_X12_byteAt (((Int32.ofInt 3) * x3) + (Int32.ofInt 1)) S) ((S 169 ((x3 + (Int32.ofInt 1)).toInt.toNat)) - (x2 * ((f_X12_hourOf (x3 + (Int32.ofInt 1)) S) - (f_X12_hourOf x3 S))))))) ((S 170 ((x3 + (Int32.ofInt 1)).toInt.toNat)) + (x2 * ((f_X12_hourOf (x3 + (Int32.ofInt 1)) S) - (f_X12_hourOf x3 S))))), .int x3, .ref 171] (z_s S 169 x3.toInt.toNat (f_X12_higher (f_X12_byteAt (((Int32.ofInt 3) * x3) + (Int32.ofInt 1)) S) ((S 169 ((x3 + (Int32.ofInt 1)).toInt.toNat)) - (x2 * ((f_X12_hourOf (x3 + (Int32.ofInt 1)) S) - (f_X12_hourOf x3 S)))))) R _
          refine u_iast rfl rfl (fun b81 b82 => ?_)
          have hD := hD b81 b82
          show u_P L xs m d m_X12_laysBehind 118 [(4, .int (x2 * ((f_X12_hourOf (x3 + (Int32.ofInt 1)) S) - (f_X12_hourOf x3 S)))), (0, .ref 100), (1, .int x1), (2, .int x2), (3, .int x3)] [] (z_s (z_s S 169 x3.toInt.toNat (f_X12_higher (f_X12_byteAt (((Int32.ofInt 3) * x3) + (Int32.ofInt 1)) S) ((S 169 ((x3 + (Int32.ofInt 1)).toInt.toNat)) - (x2 * ((f_X12_hourOf (x3 + (Int32.ofInt 1)) S) - (f_X12_hourOf x3 S)))))) 170 x3.toInt.toNat (f_X12_lower (f_X12_byteAt (((Int32.ofInt 3) * x3) + (Int32.ofInt 2)) (z_s S 169 x3.toInt.toNat (f_X12_higher (f_X12_byteAt (((Int32.ofInt 3) * x3) + (Int32.ofInt 1)) S) ((S 169 ((x3 + (Int32.ofInt 1)).toInt.toNat)) - (x2 * ((f_X12_hourOf (x3 + (Int32.ofInt 1)) S) - (f_X12_hourOf x3 S))))))) ((S 170 ((x3 + (Int32.ofInt 1)).toInt.toNat)) + (x2 * ((f_X12_hourOf (x3 + (Int32.ofInt 1)) S) - (f_X12_hourOf x3 S)))))) R _
          refine u_st rfl (fun _ => rfl) ?_
          refine u_st rfl (fun _ => rfl) ?_
          refine u_lc (b := [(0, .ref 100), (1, .int x1), (2, .int x2), (3, .int (x3 + (Int32.ofInt (-1)))), (4, .int (x2 * ((f_X12_hourOf (x3 + (Int32.ofInt 1)) S) - (f_X12_hourOf x3 S))))]) (show ([3, 4, 0, 1, 2] : List Nat).Nodup by decide) (show ([0, 1, 2, 3, 4] : List Nat).Nodup by decide) (fun i => match i with | 0 => rfl | 1 => rfl | 2 => rfl | 3 => rfl | 4 => rfl | _ + 5 => rfl) ?_
          exact (ih m hm).2 d (x2 * ((f_X12_hourOf (x3 + (Int32.ofInt 1)) S) - (f_X12_hourOf x3 S))) x1 x2 (x3 + (Int32.ofInt (-1))) (z_s (z_s S 169 x3.toInt.toNat (f_X12_higher (f_X12_byteAt (((Int32.ofInt 3) * x3) + (Int32.ofInt 1)) S) ((S 169 ((x3 + (Int32.ofInt 1)).toInt.toNat)) - (x2 * ((f_X12_hourOf (x3 + (Int32.ofInt 1)) S) - (f_X12_hourOf x3 S)))))) 170 x3.toInt.toNat (f_X12_lower (f_X12_byteAt (((Int32.ofInt 3) * x3) + (Int32.ofInt 2)) (z_s S 169 x3.toInt.toNat (f_X12_higher (f_X12_byteAt (((Int32.ofInt 3) * x3) + (Int32.ofInt 1)) S) ((S 169 ((x3 + (Int32.ofInt 1)).toInt.toNat)) - (x2 * ((f_X12_hourOf (x3 + (Int32.ofInt 1)) S) - (f_X12_hourOf x3 S))))))) ((S 170 ((x3 + (Int32.ofInt 1)).toInt.toNat)) + (x2 * ((f_X12_hourOf (x3 + (Int32.ofInt 1)) S) - (f_X12_hourOf x3 S)))))) hD
        · have hD := hD.2 h2
          show u_P L xs m d m_X12_laysBehind 15 [(0, .ref 100), (1, .int x1), (2, .int x2), (3, .int x3)] [] S R _
          refine u_st rfl (fun _ => rfl) ?_
          refine u_st rfl (fun _ => rfl) ?_
          refine u_st rfl (fun _ => rfl) ?_
          refine u_st rfl (fun _ => rfl) ?_
          show u_P L xs m d m_X12_laysBehind 37 [(4, .int (Int32.ofInt 0)), (0, .ref 100), (1, .int x1), (2, .int x2), (3, .int x3)] [.ref 100] S R _
          refine u_getr rfl v_tyM rfl ?_
          refine u_st rfl (fun _ => rfl) ?_
          refine u_st rfl (fun _ => rfl) ?_
          refine u_st rfl (fun _ => rfl) ?_
          refine u_st rfl (fun _ => rfl) ?_
          refine u_st rfl (fun _ => rfl) ?_
          refine u_st rfl (fun _ => rfl) ?_
          refine u_st rfl (fun _ => rfl) ?_
          show u_P L xs m d m_X12_laysBehind 47 [(4, .int (Int32.ofInt 0)), (0, .ref 100), (1, .int x1), (2, .int x2), (3, .int x3)] [.int (((Int32.ofInt 3) * x3) + (Int32.ofInt 1)), .ref 100, .int x3, .ref 170] S R _
          refine u_cv (rest := [.int x3, .ref 170]) rfl (by decide) mt_X12_byteAt v_tyM rfl rfl rfl (Nat.le_of_ble_eq_true rfl) (Nat.le_of_ble_eq_true rfl) (Nat.le_of_ble_eq_true rfl) (fun d' => c_X12_byteAt L xs m d' (((Int32.ofInt 3) * x3) + (Int32.ofInt 1)) S R) ?_
          rintro _ _ _ ⟨_, rfl, rfl, rfl, rfl⟩
          refine u_st rfl (fun _ => rfl) ?_
          refine u_st rfl (fun _ => rfl) ?_
          refine u_st rfl (fun _ => rfl) ?_
          refine u_st rfl (fun _ => rfl) ?_
          show u_P L xs m d m_X12_laysBehind 54 [(4, .int (Int32.ofInt 0)), (0, .ref 100), (1, .int x1), (2, .int x2), (3, .int x3)] [.int (x1 - (Int32.ofInt 1)), .int x3, .int (f_X12_byteAt (((Int32.ofInt 3) * x3) + (Int32.ofInt 1)) S), .int x3, .ref 170] S R _
          refine u_ic_ne rfl (fun h9 => absurd (Classical.not_not.mp h2) h9) (fun _ => ?_)
          show u_P L xs m d m_X12_laysBehind 57 [(4, .int (Int32.ofInt 0)), (0, .ref 100), (1, .int x1), (2, .int x2), (3, .int x3)] [.int (f_X12_byteAt (((Int32.ofInt 3) * x3) + (Int32.ofInt 1)) S), .int x3, .ref 170] S R _
          refine u_st rfl (fun _ => rfl) ?_
          refine u_st rfl (fun _ => rfl) ?_
          show u_P L xs m d m_X12_laysBehind 72 [(4, .int (Int32.ofInt 0)), (0, .ref 100), (1, .int x1), (2, .int x2), (3, .int x3)] [.int (Int32.ofInt 0), .int (f_X12_byteAt (((Int32.ofInt 3) * x3) + (Int32.ofInt 1)) S), .int x3, .ref 170] S R _
          refine u_cs (ac := [.int (f_X12_byteAt (((Int32.ofInt 3) * x3) + (Int32.ofInt 1)) S), .int (Int32.ofInt 0)]) (rest := [.int x3, .ref 170]) rfl (by decide) mt_X12_higher (fun _ => rfl) (Nat.le_of_ble_eq_true rfl) (Nat.le_of_ble_eq_true rfl) (fun d' => c_X12_higher L xs m d' (f_X12_byteAt (((Int32.ofInt 3) * x3) + (Int32.ofInt 1)) S) (Int32.ofInt 0) S R) ?_
          rintro _ _ _ ⟨_, rfl, rfl, rfl, rfl⟩
          show u_P L xs m d m_X12_laysBehind 75 [(4, .int (Int32.ofInt 0)), (0, .ref 100), (1, .int x1), (2, .int x2), (3, .int x3)] [.int (f_X12_higher (f_X12_byteAt (((Int32.ofInt 3) * x3) + (Int32.ofInt 1)) S) (Int32.ofInt 0)), .int x3, .ref 170] S R _
          refine u_iast rfl rfl (fun b101 b102 => ?_)
          have hD := hD b101 b102
          show u_P L xs m d m_X12_laysBehind 76 [(4, .int (Int32.ofInt 0)), (0, .ref 100), (1, .int x1), (2, .int x2), (3, .int x3)] [] (z_s S 169 x3.toInt.toNat (f_X12_higher (f_X12_byteAt (((Int32.ofInt 3) * x3) + (Int32.ofInt 1)) S) (Int32.ofInt 0))) R _
          refine u_st rfl (fun _ => rfl) ?_
          show u_P L xs m d m_X12_laysBehind 77 [(4, .int (Int32.ofInt 0)), (0, .ref 100), (1, .int x1), (2, .int x2), (3, .int x3)] [.ref 100] (z_s S 169 x3.toInt.toNat (f_X12_higher (f_X12_byteAt (((Int32.ofInt 3) * x3) + (Int32.ofInt 1)) S) (Int32.ofInt 0))) R _
          refine u_getr rfl v_tyM rfl ?_
          refine u_st rfl (fun _ => rfl) ?_
          refine u_st rfl (fun _ => rfl) ?_
          refine u_st rfl (fun _ => rfl) ?_
          refine u_st rfl (fun _ => rfl) ?_
          refine u_st rfl (fun _ => rfl) ?_
          refine u_st rfl (fun _ => rfl) ?_
          refine u_st rfl (fun _ => rfl) ?_
          show u_P L xs m d m_X12_laysBehind 87 [(4, .int (Int32.ofInt 0)), (0, .ref 100), (1, .int x1), (2, .int x2), (3, .int x3)] [.int (((Int32.ofInt 3) * x3) + (Int32.ofInt 2)), .ref 100, .int x3, .ref 171] (z_s S 169 x3.toInt.toNat (f_X12_higher (f_X12_byteAt (((Int32.ofInt 3) * x3) + (Int32.ofInt 1)) S) (Int32.ofInt 0))) R _
          refine u_cv (rest := [.int x3, .ref 171]) rfl (by decide) mt_X12_byteAt v_tyM rfl rfl rfl (Nat.le_of_ble_eq_true rfl) (Nat.le_of_ble_eq_true rfl) (Nat.le_of_ble_eq_true rfl) (fun d' => c_X12_byteAt L xs m d' (((Int32.ofInt 3) * x3) + (Int32.ofInt 2)) (z_s S 169 x3.toInt.toNat (f_X12_higher (f_X12_byteAt (((Int32.ofInt 3) * x3) + (Int32.ofInt 1)) S) (Int32.ofInt 0))) R) ?_
          rintro _ _ _ ⟨_, rfl, rfl, rfl, rfl⟩
          refine u_st rfl (fun _ => rfl) ?_
          refine u_st rfl (fun _ => rfl) ?_
          refine u_st rfl (fun _ => rfl) ?_
          refine u_st rfl (fun _ => rfl) ?_
          show u_P L xs m d m_X12_laysBehind 94 [(4, .int (Int32.ofInt 0)), (0, .ref 100), (1, .int x1), (2, .int x2), (3, .int x3)] [.int (x1 - (Int32.ofInt 1)), .int x3, .int (f_X12_byteAt (((Int32.ofInt 3) * x3) + (Int32.ofInt 2)) (z_s S 169 x3.toInt.toNat (f_X12_higher (f_X12_byteAt (((Int32.ofInt 3) * x3) + (Int32.ofInt 1)) S) (Int32.ofInt 0)))), .int x3, .ref 171] (z_s S 169 x3.toInt.toNat (f_X12_higher (f_X12_byteAt (((Int32.ofInt 3) * x3) + (Int32.ofInt 1)) S) (Int32.ofInt 0))) R _
          refine u_ic_ne rfl (fun h11 => absurd (Classical.not_not.mp h2) h11) (fun _ => ?_)
          show u_P L xs m d m_X12_laysBehind 97 [(4, .int (Int32.ofInt 0)), (0, .ref 100), (1, .int x1), (2, .int x2), (3, .int x3)] [.int (f_X12_byteAt (((Int32.ofInt 3) * x3) + (Int32.ofInt 2)) (z_s S 169 x3.toInt.toNat (f_X12_higher (f_X12_byteAt (((Int32.ofInt 3) * x3) + (Int32.ofInt 1)) S) (Int32.ofInt 0)))), .int x3, .ref 171] (z_s S 169 x3.toInt.toNat (f_X12_higher (f_X12_byteAt (((Int32.ofInt 3) * x3) + (Int32.ofInt 1)) S) (Int32.ofInt 0))) R _
          refine u_st rfl (fun _ => rfl) ?_
          refine u_st rfl (fun _ => rfl) ?_
          show u_P L xs m d m_X12_laysBehind 114 [(4, .int (Int32.ofInt 0)), (0, .ref 100), (1, .int x1), (2, .int x2), (3, .int x3)] [.int (Int32.ofInt 250), .int (f_X12_byteAt (((Int32.ofInt 3) * x3) + (Int32.ofInt 2)) (z_s S 169 x3.toInt.toNat (f_X12_higher (f_X12_byteAt (((Int32.ofInt 3) * x3) + (Int32.ofInt 1)) S) (Int32.ofInt 0)))), .int x3, .ref 171] (z_s S 169 x3.toInt.toNat (f_X12_higher (f_X12_byteAt (((Int32.ofInt 3) * x3) + (Int32.ofInt 1)) S) (Int32.ofInt 0))) R _
          refine u_cs (ac := [.int (f_X12_byteAt (((Int32.ofInt 3) * x3) + (Int32.ofInt 2)) (z_s S 169 x3.toInt.toNat (f_X12_higher (f_X12_byteAt (((Int32.ofInt 3) * x3) + (Int32.ofInt 1)) S) (Int32.ofInt 0)))), .int (Int32.ofInt 250)]) (rest := [.int x3, .ref 171]) rfl (by decide) mt_X12_lower (fun _ => rfl) (Nat.le_of_ble_eq_true rfl) (Nat.le_of_ble_eq_true rfl) (fun d' => c_X12_lower L xs m d' (f_X12_byteAt (((Int32.ofInt 3) * x3) + (Int32.ofInt 2)) (z_s S 169 x3.toInt.toNat (f_X12_higher (f_X12_byteAt (((Int32.ofInt 3) * x3) + (Int32.ofInt 1)) S) (Int32.ofInt 0)))) (Int32.ofInt 250) (z_s S 169 x3.toInt.toNat (f_X12_higher (f_X12_byteAt (((Int32.ofInt 3) * x3) + (Int32.ofInt 1)) S) (Int32.ofInt 0))) R) ?_
          rintro _ _ _ ⟨_, rfl, rfl, rfl, rfl⟩
          show u_P L xs m d m_X12_laysBehind 117 [(4, .int (Int32.ofInt 0)), (0, .ref 100), (1, .int x1), (2, .int x2), (3, .int x3)] [.int (f_X12_lower (f_X12_byteAt (((Int32.ofInt 3) * x3) + (Int32.ofInt 2)) (z_s S 169 x3.toInt.toNat (f_X12_higher (f_X12_byteAt (((Int32.ofInt 3) * x3) + (Int32.ofInt 1)) S) (Int32.ofInt 0)))) (Int32.ofInt 250)), .int x3, .ref 171] (z_s S 169 x3.toInt.toNat (f_X12_higher (f_X12_byteAt (((Int32.ofInt 3) * x3) + (Int32.ofInt 1)) S) (Int32.ofInt 0))) R _
          refine u_iast rfl rfl (fun b121 b122 => ?_)
          have hD := hD b121 b122
          show u_P L xs m d m_X12_laysBehind 118 [(4, .int (Int32.ofInt 0)), (0, .ref 100), (1, .int x1), (2, .int x2), (3, .int x3)] [] (z_s (z_s S 169 x3.toInt.toNat (f_X12_higher (f_X12_byteAt (((Int32.ofInt 3) * x3) + (Int32.ofInt 1)) S) (Int32.ofInt 0))) 170 x3.toInt.toNat (f_X12_lower (f_X12_byteAt (((Int32.ofInt 3) * x3) + (Int32.ofInt 2)) (z_s S 169 x3.toInt.toNat (f_X12_higher (f_X12_byteAt (((Int32.ofInt 3) * x3) + (Int32.ofInt 1)) S) (Int32.ofInt 0)))) (Int32.ofInt 250))) R _
          refine u_st rfl (fun _ => rfl) ?_
          refine u_st rfl (fun _ => rfl) ?_
          refine u_lc (b := [(0, .ref 100), (1, .int x1), (2, .int x2), (3, .int (x3 + (Int32.ofInt (-1)))), (4, .int (Int32.ofInt 0))]) (show ([3, 4, 0, 1, 2] : List Nat).Nodup by decide) (show ([0, 1, 2, 3, 4] : List Nat).Nodup by decide) (fun i => match i with | 0 => rfl | 1 => rfl | 2 => rfl | 3 => rfl | 4 => rfl | _ + 5 => rfl) ?_
          exact (ih m hm).2 d (Int32.ofInt 0) x1 x2 (x3 + (Int32.ofInt (-1))) (z_s (z_s S 169 x3.toInt.toNat (f_X12_higher (f_X12_byteAt (((Int32.ofInt 3) * x3) + (Int32.ofInt 1)) S) (Int32.ofInt 0))) 170 x3.toInt.toNat (f_X12_lower (f_X12_byteAt (((Int32.ofInt 3) * x3) + (Int32.ofInt 2)) (z_s S 169 x3.toInt.toNat (f_X12_higher (f_X12_byteAt (((Int32.ofInt 3) * x3) + (Int32.ofInt 1)) S) (Int32.ofInt 0)))) (Int32.ofInt 250))) hD
    · intro d j4 x1 x2 x3 S hD
      have hD := k4 x1 x2 x3 S hD
      unfold D_X12_laysBehind_4 at hD
      show u_P L xs n d m_X12_laysBehind 4 [(0, .ref 100), (1, .int x1), (2, .int x2), (3, .int x3), (4, .int j4)] [] S R _
      refine u_st1 rfl (fun _ => rfl) (fun m hm => ?_)
      show u_P L xs m d m_X12_laysBehind 5 [(0, .ref 100), (1, .int x1), (2, .int x2), (3, .int x3), (4, .int j4)] [.int x3] S R _
      refine u_if_lt rfl (fun h1 => ?_) (fun h1 => ?_)
      · have hD := hD.1 h1
        show u_P L xs m d m_X12_laysBehind 124 [(0, .ref 100), (1, .int x1), (2, .int x2), (3, .int x3), (4, .int j4)] [] S R _
        exact u_ret rfl rfl ⟨rfl, rfl, hD⟩
      · have hD := hD.2 h1
        show u_P L xs m d m_X12_laysBehind 8 [(0, .ref 100), (1, .int x1), (2, .int x2), (3, .int x3), (4, .int j4)] [] S R _
        refine u_st rfl (fun _ => rfl) ?_
        refine u_st rfl (fun _ => rfl) ?_
        refine u_st rfl (fun _ => rfl) ?_
        refine u_st rfl (fun _ => rfl) ?_
        show u_P L xs m d m_X12_laysBehind 12 [(0, .ref 100), (1, .int x1), (2, .int x2), (3, .int x3), (4, .int j4)] [.int (x1 - (Int32.ofInt 1)), .int x3] S R _
        refine u_ic_ne rfl (fun h2 => ?_) (fun h2 => ?_)
        · have hD := hD.1 h2
          show u_P L xs m d m_X12_laysBehind 19 [(0, .ref 100), (1, .int x1), (2, .int x2), (3, .int x3), (4, .int j4)] [] S R _
          refine u_st rfl (fun _ => rfl) ?_
          refine u_st rfl (fun _ => rfl) ?_
          refine u_st rfl (fun _ => rfl) ?_
          refine u_st rfl (fun _ => rfl) ?_
          refine u_st rfl (fun _ => rfl) ?_
          show u_P L xs m d m_X12_laysBehind 24 [(0, .ref 100), (1, .int x1), (2, .int x2), (3, .int x3), (4, .int j4)] [.int (x3 + (Int32.ofInt 1)), .ref 100, .int x2] S R _
          refine u_cv (rest := [.int x2]) rfl (by decide) mt_X12_hourOf v_tyM rfl rfl rfl (Nat.le_of_ble_eq_true rfl) (Nat.le_of_ble_eq_true rfl) (Nat.le_of_ble_eq_true rfl) (fun d' => c_X12_hourOf L xs m d' (x3 + (Int32.ofInt 1)) S R) ?_
          rintro _ _ _ ⟨_, rfl, rfl, rfl, rfl⟩
          refine u_st rfl (fun _ => rfl) ?_
          refine u_st rfl (fun _ => rfl) ?_
          show u_P L xs m d m_X12_laysBehind 29 [(0, .ref 100), (1, .int x1), (2, .int x2), (3, .int x3), (4, .int j4)] [.int x3, .ref 100, .int (f_X12_hourOf (x3 + (Int32.ofInt 1)) S), .int x2] S R _
          refine u_cv (rest := [.int (f_X12_hourOf (x3 + (Int32.ofInt 1)) S), .int x2]) rfl (by decide) mt_X12_hourOf v_tyM rfl rfl rfl (Nat.le_of_ble_eq_true rfl) (Nat.le_of_ble_eq_true rfl) (Nat.le_of_ble_eq_true rfl) (fun d' => c_X12_hourOf L xs m d' x3 S R) ?_
          rintro _ _ _ ⟨_, rfl, rfl, rfl, rfl⟩
          refine u_st rfl (fun _ => rfl) ?_
          refine u_st rfl (fun _ => rfl) ?_
          refine u_st rfl (fun _ => rfl) ?_
          refine u_st rfl (fun _ => rfl) ?_
          show u_P L xs m d m_X12_laysBehind 37 [(4, .int (x2 * ((f_X12_hourOf (x3 + (Int32.ofInt 1)) S) - (f_X12_hourOf x3 S)))), (0, .ref 100), (1, .int x1), (2, .int x2), (3, .int x3)] [.ref 100] S R _
          refine u_getr rfl v_tyM rfl ?_
          refine u_st rfl (fun _ => rfl) ?_
          refine u_st rfl (fun _ => rfl) ?_
          refine u_st rfl (fun _ => rfl) ?_
          refine u_st rfl (fun _ => rfl) ?_
          refine u_st rfl (fun _ => rfl) ?_
          refine u_st rfl (fun _ => rfl) ?_
          refine u_st rfl (fun _ => rfl) ?_
          show u_P L xs m d m_X12_laysBehind 47 [(4, .int (x2 * ((f_X12_hourOf (x3 + (Int32.ofInt 1)) S) - (f_X12_hourOf x3 S)))), (0, .ref 100), (1, .int x1), (2, .int x2), (3, .int x3)] [.int (((Int32.ofInt 3) * x3) + (Int32.ofInt 1)), .ref 100, .int x3, .ref 170] S R _
          refine u_cv (rest := [.int x3, .ref 170]) rfl (by decide) mt_X12_byteAt v_tyM rfl rfl rfl (Nat.le_of_ble_eq_true rfl) (Nat.le_of_ble_eq_true rfl) (Nat.le_of_ble_eq_true rfl) (fun d' => c_X12_byteAt L xs m d' (((Int32.ofInt 3) * x3) + (Int32.ofInt 1)) S R) ?_
          rintro _ _ _ ⟨_, rfl, rfl, rfl, rfl⟩
          refine u_st rfl (fun _ => rfl) ?_
          refine u_st rfl (fun _ => rfl) ?_
          refine u_st rfl (fun _ => rfl) ?_
          refine u_st rfl (fun _ => rfl) ?_
          show u_P L xs m d m_X12_laysBehind 54 [(4, .int (x2 * ((f_X12_hourOf (x3 + (Int32.ofInt 1)) S) - (f_X12_hourOf x3 S)))), (0, .ref 100), (1, .int x1), (2, .int x2), (3, .int x3)] [.int (x1 - (Int32.ofInt 1)), .int x3, .int (f_X12_byteAt (((Int32.ofInt 3) * x3) + (Int32.ofInt 1)) S), .int x3, .ref 170] S R _
          refine u_ic_ne rfl (fun _ => ?_) (fun h3 => absurd h2 h3)
          show u_P L xs m d m_X12_laysBehind 61 [(4, .int (x2 * ((f_X12_hourOf (x3 + (Int32.ofInt 1)) S) - (f_X12_hourOf x3 S)))), (0, .ref 100), (1, .int x1), (2, .int x2), (3, .int x3)] [.int (f_X12_byteAt (((Int32.ofInt 3) * x3) + (Int32.ofInt 1)) S), .int x3, .ref 170] S R _
          refine u_st rfl (fun _ => rfl) ?_
          show u_P L xs m d m_X12_laysBehind 62 [(4, .int (x2 * ((f_X12_hourOf (x3 + (Int32.ofInt 1)) S) - (f_X12_hourOf x3 S)))), (0, .ref 100), (1, .int x1), (2, .int x2), (3, .int x3)] [.ref 100, .int (f_X12_byteAt (((Int32.ofInt 3) * x3) + (Int32.ofInt 1)) S), .int x3, .ref 170] S R _
          refine u_getr rfl v_tyM rfl ?_
          refine u_st rfl (fun _ => rfl) ?_
          refine u_st rfl (fun _ => rfl) ?_
          refine u_st rfl (fun _ => rfl) ?_
          show u_P L xs m d m_X12_laysBehind 68 [(4, .int (x2 * ((f_X12_hourOf (x3 + (Int32.ofInt 1)) S) - (f_X12_hourOf x3 S)))), (0, .ref 100), (1, .int x1), (2, .int x2), (3, .int x3)] [.int (x3 + (Int32.ofInt 1)), .ref 170, .int (f_X12_byteAt (((Int32.ofInt 3) * x3) + (Int32.ofInt 1)) S), .int x3, .ref 170] S R _
          refine u_ialdE (v := S 169 ((x3 + (Int32.ofInt 1)).toInt.toNat)) rfl rfl rfl (fun b41 b42 => ?_)
          have hD := hD b41 b42
          show u_P L xs m d m_X12_laysBehind 69 [(4, .int (x2 * ((f_X12_hourOf (x3 + (Int32.ofInt 1)) S) - (f_X12_hourOf x3 S)))), (0, .ref 100), (1, .int x1), (2, .int x2), (3, .int x3)] [.int (S 169 ((x3 + (Int32.ofInt 1)).toInt.toNat)), .int (f_X12_byteAt (((Int32.ofInt 3) * x3) + (Int32.ofInt 1)) S), .int x3, .ref 170] S R _
          refine u_st rfl (fun _ => rfl) ?_
          refine u_st rfl (fun _ => rfl) ?_
          show u_P L xs m d m_X12_laysBehind 72 [(4, .int (x2 * ((f_X12_hourOf (x3 + (Int32.ofInt 1)) S) - (f_X12_hourOf x3 S)))), (0, .ref 100), (1, .int x1), (2, .int x2), (3, .int x3)] [.int ((S 169 ((x3 + (Int32.ofInt 1)).toInt.toNat)) - (x2 * ((f_X12_hourOf (x3 + (Int32.ofInt 1)) S) - (f_X12_hourOf x3 S)))), .int (f_X12_byteAt (((Int32.ofInt 3) * x3) + (Int32.ofInt 1)) S), .int x3, .ref 170] S R _
          refine u_cs (ac := [.int (f_X12_byteAt (((Int32.ofInt 3) * x3) + (Int32.ofInt 1)) S), .int ((S 169 ((x3 + (Int32.ofInt 1)).toInt.toNat)) - (x2 * ((f_X12_hourOf (x3 + (Int32.ofInt 1)) S) - (f_X12_hourOf x3 S))))]) (rest := [.int x3, .ref 170]) rfl (by decide) mt_X12_higher (fun _ => rfl) (Nat.le_of_ble_eq_true rfl) (Nat.le_of_ble_eq_true rfl) (fun d' => c_X12_higher L xs m d' (f_X12_byteAt (((Int32.ofInt 3) * x3) + (Int32.ofInt 1)) S) ((S 169 ((x3 + (Int32.ofInt 1)).toInt.toNat)) - (x2 * ((f_X12_hourOf (x3 + (Int32.ofInt 1)) S) - (f_X12_hourOf x3 S)))) S R) ?_
          rintro _ _ _ ⟨_, rfl, rfl, rfl, rfl⟩
          show u_P L xs m d m_X12_laysBehind 75 [(4, .int (x2 * ((f_X12_hourOf (x3 + (Int32.ofInt 1)) S) - (f_X12_hourOf x3 S)))), (0, .ref 100), (1, .int x1), (2, .int x2), (3, .int x3)] [.int (f_X12_higher (f_X12_byteAt (((Int32.ofInt 3) * x3) + (Int32.ofInt 1)) S) ((S 169 ((x3 + (Int32.ofInt 1)).toInt.toNat)) - (x2 * ((f_X12_hourOf (x3 + (Int32.ofInt 1)) S) - (f_X12_hourOf x3 S))))), .int x3, .ref 170] S R _
          refine u_iast rfl rfl (fun b51 b52 => ?_)
          have hD := hD b51 b52
          show u_P L xs m d m_X12_laysBehind 76 [(4, .int (x2 * ((f_X12_hourOf (x3 + (Int32.ofInt 1)) S) - (f_X12_hourOf x3 S)))), (0, .ref 100), (1, .int x1), (2, .int x2), (3, .int x3)] [] (z_s S 169 x3.toInt.toNat (f_X12_higher (f_X12_byteAt (((Int32.ofInt 3) * x3) + (Int32.ofInt 1)) S) ((S 169 ((x3 + (Int32.ofInt 1)).toInt.toNat)) - (x2 * ((f_X12_hourOf (x3 + (Int32.ofInt 1)) S) - (f_X12_hourOf x3 S)))))) R _
          refine u_st rfl (fun _ => rfl) ?_
          show u_P L xs m d m_X12_laysBehind 77 [(4, .int (x2 * ((f_X12_hourOf (x3 + (Int32.ofInt 1)) S) - (f_X12_hourOf x3 S)))), (0, .ref 100), (1, .int x1), (2, .int x2), (3, .int x3)] [.ref 100] (z_s S 169 x3.toInt.toNat (f_X12_higher (f_X12_byteAt (((Int32.ofInt 3) * x3) + (Int32.ofInt 1)) S) ((S 169 ((x3 + (Int32.ofInt 1)).toInt.toNat)) - (x2 * ((f_X12_hourOf (x3 + (Int32.ofInt 1)) S) - (f_X12_hourOf x3 S)))))) R _
          refine u_getr rfl v_tyM rfl ?_
          refine u_st rfl (fun _ => rfl) ?_
          refine u_st rfl (fun _ => rfl) ?_
          refine u_st rfl (fun _ => rfl) ?_
          refine u_st rfl (fun _ => rfl) ?_
          refine u_st rfl (fun _ => rfl) ?_
          refine u_st rfl (fun _ => rfl) ?_
          refine u_st rfl (fun _ => rfl) ?_
          show u_P L xs m d m_X12_laysBehind 87 [(4, .int (x2 * ((f_X12_hourOf (x3 + (Int32.ofInt 1)) S) - (f_X12_hourOf x3 S)))), (0, .ref 100), (1, .int x1), (2, .int x2), (3, .int x3)] [.int (((Int32.ofInt 3) * x3) + (Int32.ofInt 2)), .ref 100, .int x3, .ref 171] (z_s S 169 x3.toInt.toNat (f_X12_higher (f_X12_byteAt (((Int32.ofInt 3) * x3) + (Int32.ofInt 1)) S) ((S 169 ((x3 + (Int32.ofInt 1)).toInt.toNat)) - (x2 * ((f_X12_hourOf (x3 + (Int32.ofInt 1)) S) - (f_X12_hourOf x3 S)))))) R _
          refine u_cv (rest := [.int x3, .ref 171]) rfl (by decide) mt_X12_byteAt v_tyM rfl rfl rfl (Nat.le_of_ble_eq_true rfl) (Nat.le_of_ble_eq_true rfl) (Nat.le_of_ble_eq_true rfl) (fun d' => c_X12_byteAt L xs m d' (((Int32.ofInt 3) * x3) + (Int32.ofInt 2)) (z_s S 169 x3.toInt.toNat (f_X12_higher (f_X12_byteAt (((Int32.ofInt 3) * x3) + (Int32.ofInt 1)) S) ((S 169 ((x3 + (Int32.ofInt 1)).toInt.toNat)) - (x2 * ((f_X12_hourOf (x3 + (Int32.ofInt 1)) S) - (f_X12_hourOf x3 S)))))) R) ?_
          rintro _ _ _ ⟨_, rfl, rfl, rfl, rfl⟩
          refine u_st rfl (fun _ => rfl) ?_
          refine u_st rfl (fun _ => rfl) ?_
          refine u_st rfl (fun _ => rfl) ?_
          refine u_st rfl (fun _ => rfl) ?_
          show u_P L xs m d m_X12_laysBehind 94 [(4, .int (x2 * ((f_X12_hourOf (x3 + (Int32.ofInt 1)) S) - (f_X12_hourOf x3 S)))), (0, .ref 100), (1, .int x1), (2, .int x2), (3, .int x3)] [.int (x1 - (Int32.ofInt 1)), .int x3, .int (f_X12_byteAt (((Int32.ofInt 3) * x3) + (Int32.ofInt 2)) (z_s S 169 x3.toInt.toNat (f_X12_higher (f_X12_byteAt (((Int32.ofInt 3) * x3) + (Int32.ofInt 1)) S) ((S 169 ((x3 + (Int32.ofInt 1)).toInt.toNat)) - (x2 * ((f_X12_hourOf (x3 + (Int32.ofInt 1)) S) - (f_X12_hourOf x3 S))))))), .int x3, .ref 171] (z_s S 169 x3.toInt.toNat (f_X12_higher (f_X12_byteAt (((Int32.ofInt 3) * x3) + (Int32.ofInt 1)) S) ((S 169 ((x3 + (Int32.ofInt 1)).toInt.toNat)) - (x2 * ((f_X12_hourOf (x3 + (Int32.ofInt 1)) S) - (f_X12_hourOf x3 S)))))) R _
          refine u_ic_ne rfl (fun _ => ?_) (fun h6 => absurd h2 h6)
          show u_P L xs m d m_X12_laysBehind 103 [(4, .int (x2 * ((f_X12_hourOf (x3 + (Int32.ofInt 1)) S) - (f_X12_hourOf x3 S)))), (0, .ref 100), (1, .int x1), (2, .int x2), (3, .int x3)] [.int (f_X12_byteAt (((Int32.ofInt 3) * x3) + (Int32.ofInt 2)) (z_s S 169 x3.toInt.toNat (f_X12_higher (f_X12_byteAt (((Int32.ofInt 3) * x3) + (Int32.ofInt 1)) S) ((S 169 ((x3 + (Int32.ofInt 1)).toInt.toNat)) - (x2 * ((f_X12_hourOf (x3 + (Int32.ofInt 1)) S) - (f_X12_hourOf x3 S))))))), .int x3, .ref 171] (z_s S 169 x3.toInt.toNat (f_X12_higher (f_X12_byteAt (((Int32.ofInt 3) * x3) + (Int32.ofInt 1)) S) ((S 169 ((x3 + (Int32.ofInt 1)).toInt.toNat)) - (x2 * ((f_X12_hourOf (x3 + (Int32.ofInt 1)) S) - (f_X12_hourOf x3 S)))))) R _
          refine u_st rfl (fun _ => rfl) ?_
          show u_P L xs m d m_X12_laysBehind 104 [(4, .int (x2 * ((f_X12_hourOf (x3 + (Int32.ofInt 1)) S) - (f_X12_hourOf x3 S)))), (0, .ref 100), (1, .int x1), (2, .int x2), (3, .int x3)] [.ref 100, .int (f_X12_byteAt (((Int32.ofInt 3) * x3) + (Int32.ofInt 2)) (z_s S 169 x3.toInt.toNat (f_X12_higher (f_X12_byteAt (((Int32.ofInt 3) * x3) + (Int32.ofInt 1)) S) ((S 169 ((x3 + (Int32.ofInt 1)).toInt.toNat)) - (x2 * ((f_X12_hourOf (x3 + (Int32.ofInt 1)) S) - (f_X12_hourOf x3 S))))))), .int x3, .ref 171] (z_s S 169 x3.toInt.toNat (f_X12_higher (f_X12_byteAt (((Int32.ofInt 3) * x3) + (Int32.ofInt 1)) S) ((S 169 ((x3 + (Int32.ofInt 1)).toInt.toNat)) - (x2 * ((f_X12_hourOf (x3 + (Int32.ofInt 1)) S) - (f_X12_hourOf x3 S)))))) R _
          refine u_getr rfl v_tyM rfl ?_
          refine u_st rfl (fun _ => rfl) ?_
          refine u_st rfl (fun _ => rfl) ?_
          refine u_st rfl (fun _ => rfl) ?_
          show u_P L xs m d m_X12_laysBehind 110 [(4, .int (x2 * ((f_X12_hourOf (x3 + (Int32.ofInt 1)) S) - (f_X12_hourOf x3 S)))), (0, .ref 100), (1, .int x1), (2, .int x2), (3, .int x3)] [.int (x3 + (Int32.ofInt 1)), .ref 171, .int (f_X12_byteAt (((Int32.ofInt 3) * x3) + (Int32.ofInt 2)) (z_s S 169 x3.toInt.toNat (f_X12_higher (f_X12_byteAt (((Int32.ofInt 3) * x3) + (Int32.ofInt 1)) S) ((S 169 ((x3 + (Int32.ofInt 1)).toInt.toNat)) - (x2 * ((f_X12_hourOf (x3 + (Int32.ofInt 1)) S) - (f_X12_hourOf x3 S))))))), .int x3, .ref 171] (z_s S 169 x3.toInt.toNat (f_X12_higher (f_X12_byteAt (((Int32.ofInt 3) * x3) + (Int32.ofInt 1)) S) ((S 169 ((x3 + (Int32.ofInt 1)).toInt.toNat)) - (x2 * ((f_X12_hourOf (x3 + (Int32.ofInt 1)) S) - (f_X12_hourOf x3 S)))))) R _
          refine u_ialdE (v := S 170 ((x3 + (Int32.ofInt 1)).toInt.toNat)) rfl rfl (z_sn (fun h => absurd h.1 (by decide))) (fun b71 b72 => ?_)
          have hD := hD b71 b72
          show u_P L xs m d m_X12_laysBehind 111 [(4, .int (x2 * ((f_X12_hourOf (x3 + (Int32.ofInt 1)) S) - (f_X12_hourOf x3 S)))), (0, .ref 100), (1, .int x1), (2, .int x2), (3, .int x3)] [.int (S 170 ((x3 + (Int32.ofInt 1)).toInt.toNat)), .int (f_X12_byteAt (((Int32.ofInt 3) * x3) + (Int32.ofInt 2)) (z_s S 169 x3.toInt.toNat (f_X12_higher (f_X12_byteAt (((Int32.ofInt 3) * x3) + (Int32.ofInt 1)) S) ((S 169 ((x3 + (Int32.ofInt 1)).toInt.toNat)) - (x2 * ((f_X12_hourOf (x3 + (Int32.ofInt 1)) S) - (f_X12_hourOf x3 S))))))), .int x3, .ref 171] (z_s S 169 x3.toInt.toNat (f_X12_higher (f_X12_byteAt (((Int32.ofInt 3) * x3) + (Int32.ofInt 1)) S) ((S 169 ((x3 + (Int32.ofInt 1)).toInt.toNat)) - (x2 * ((f_X12_hourOf (x3 + (Int32.ofInt 1)) S) - (f_X12_hourOf x3 S)))))) R _
          refine u_st rfl (fun _ => rfl) ?_
          refine u_st rfl (fun _ => rfl) ?_
          show u_P L xs m d m_X12_laysBehind 114 [(4, .int (x2 * ((f_X12_hourOf (x3 + (Int32.ofInt 1)) S) - (f_X12_hourOf x3 S)))), (0, .ref 100), (1, .int x1), (2, .int x2), (3, .int x3)] [.int ((S 170 ((x3 + (Int32.ofInt 1)).toInt.toNat)) + (x2 * ((f_X12_hourOf (x3 + (Int32.ofInt 1)) S) - (f_X12_hourOf x3 S)))), .int (f_X12_byteAt (((Int32.ofInt 3) * x3) + (Int32.ofInt 2)) (z_s S 169 x3.toInt.toNat (f_X12_higher (f_X12_byteAt (((Int32.ofInt 3) * x3) + (Int32.ofInt 1)) S) ((S 169 ((x3 + (Int32.ofInt 1)).toInt.toNat)) - (x2 * ((f_X12_hourOf (x3 + (Int32.ofInt 1)) S) - (f_X12_hourOf x3 S))))))), .int x3, .ref 171] (z_s S 169 x3.toInt.toNat (f_X12_higher (f_X12_byteAt (((Int32.ofInt 3) * x3) + (Int32.ofInt 1)) S) ((S 169 ((x3 + (Int32.ofInt 1)).toInt.toNat)) - (x2 * ((f_X12_hourOf (x3 + (Int32.ofInt 1)) S) - (f_X12_hourOf x3 S)))))) R _
          refine u_cs (ac := [.int (f_X12_byteAt (((Int32.ofInt 3) * x3) + (Int32.ofInt 2)) (z_s S 169 x3.toInt.toNat (f_X12_higher (f_X12_byteAt (((Int32.ofInt 3) * x3) + (Int32.ofInt 1)) S) ((S 169 ((x3 + (Int32.ofInt 1)).toInt.toNat)) - (x2 * ((f_X12_hourOf (x3 + (Int32.ofInt 1)) S) - (f_X12_hourOf x3 S))))))), .int ((S 170 ((x3 + (Int32.ofInt 1)).toInt.toNat)) + (x2 * ((f_X12_hourOf (x3 + (Int32.ofInt 1)) S) - (f_X12_hourOf x3 S))))]) (rest := [.int x3, .ref 171]) rfl (by decide) mt_X12_lower (fun _ => rfl) (Nat.le_of_ble_eq_true rfl) (Nat.le_of_ble_eq_true rfl) (fun d' => c_X12_lower L xs m d' (f_X12_byteAt (((Int32.ofInt 3) * x3) + (Int32.ofInt 2)) (z_s S 169 x3.toInt.toNat (f_X12_higher (f_X12_byteAt (((Int32.ofInt 3) * x3) + (Int32.ofInt 1)) S) ((S 169 ((x3 + (Int32.ofInt 1)).toInt.toNat)) - (x2 * ((f_X12_hourOf (x3 + (Int32.ofInt 1)) S) - (f_X12_hourOf x3 S))))))) ((S 170 ((x3 + (Int32.ofInt 1)).toInt.toNat)) + (x2 * ((f_X12_hourOf (x3 + (Int32.ofInt 1)) S) - (f_X12_hourOf x3 S)))) (z_s S 169 x3.toInt.toNat (f_X12_higher (f_X12_byteAt (((Int32.ofInt 3) * x3) + (Int32.ofInt 1)) S) ((S 169 ((x3 + (Int32.ofInt 1)).toInt.toNat)) - (x2 * ((f_X12_hourOf (x3 + (Int32.ofInt 1)) S) - (f_X12_hourOf x3 S)))))) R) ?_
          rintro _ _ _ ⟨_, rfl, rfl, rfl, rfl⟩
          show u_P L xs m d m_X12_laysBehind 117 [(4, .int (x2 * ((f_X12_hourOf (x3 + (Int32.ofInt 1)) S) - (f_X12_hourOf x3 S)))), (0, .ref 100), (1, .int x1), (2, .int x2), (3, .int x3)] [.int (f_X12_lower (f_X12_byteAt (((Int32.ofInt 3) * x3) + (Int32.ofInt 2)) (z_s S 169 x3.toInt.toNat (f_X12_higher (f_X12_byteAt (((Int32.ofInt 3) * x3) + (Int32.ofInt 1)) S) ((S 169 ((x3 + (Int32.ofInt 1)).toInt.toNat)) - (x2 * ((f_X12_hourOf (x3 + (Int32.ofInt 1)) S) - (f_X12_hourOf x3 S))))))) ((S 170 ((x3 + (Int32.ofInt 1)).toInt.toNat)) + (x2 * ((f_X12_hourOf (x3 + (Int32.ofInt 1)) S) - (f_X12_hourOf x3 S))))), .int x3, .ref 171] (z_s S 169 x3.toInt.toNat (f_X12_higher (f_X12_byteAt (((Int32.ofInt 3) * x3) + (Int32.ofInt 1)) S) ((S 169 ((x3 + (Int32.ofInt 1)).toInt.toNat)) - (x2 * ((f_X12_hourOf (x3 + (Int32.ofInt 1)) S) - (f_X12_hourOf x3 S)))))) R _
          refine u_iast rfl rfl (fun b81 b82 => ?_)
          have hD := hD b81 b82
          show u_P L xs m d m_X12_laysBehind 118 [(4, .int (x2 * ((f_X12_hourOf (x3 + (Int32.ofInt 1)) S) - (f_X12_hourOf x3 S)))), (0, .ref 100), (1, .int x1), (2, .int x2), (3, .int x3)] [] (z_s (z_s S 169 x3.toInt.toNat (f_X12_higher (f_X12_byteAt (((Int32.ofInt 3) * x3) + (Int32.ofInt 1)) S) ((S 169 ((x3 + (Int32.ofInt 1)).toInt.toNat)) - (x2 * ((f_X12_hourOf (x3 + (Int32.ofInt 1)) S) - (f_X12_hourOf x3 S)))))) 170 x3.toInt.toNat (f_X12_lower (f_X12_byteAt (((Int32.ofInt 3) * x3) + (Int32.ofInt 2)) (z_s S 169 x3.toInt.toNat (f_X12_higher (f_X12_byteAt (((Int32.ofInt 3) * x3) + (Int32.ofInt 1)) S) ((S 169 ((x3 + (Int32.ofInt 1)).toInt.toNat)) - (x2 * ((f_X12_hourOf (x3 + (Int32.ofInt 1)) S) - (f_X12_hourOf x3 S))))))) ((S 170 ((x3 + (Int32.ofInt 1)).toInt.toNat)) + (x2 * ((f_X12_hourOf (x3 + (Int32.ofInt 1)) S) - (f_X12_hourOf x3 S)))))) R _
          refine u_st rfl (fun _ => rfl) ?_
          refine u_st rfl (fun _ => rfl) ?_
          refine u_lc (b := [(0, .ref 100), (1, .int x1), (2, .int x2), (3, .int (x3 + (Int32.ofInt (-1)))), (4, .int (x2 * ((f_X12_hourOf (x3 + (Int32.ofInt 1)) S) - (f_X12_hourOf x3 S))))]) (show ([3, 4, 0, 1, 2] : List Nat).Nodup by decide) (show ([0, 1, 2, 3, 4] : List Nat).Nodup by decide) (fun i => match i with | 0 => rfl | 1 => rfl | 2 => rfl | 3 => rfl | 4 => rfl | _ + 5 => rfl) ?_
          exact (ih m hm).2 d (x2 * ((f_X12_hourOf (x3 + (Int32.ofInt 1)) S) - (f_X12_hourOf x3 S))) x1 x2 (x3 + (Int32.ofInt (-1))) (z_s (z_s S 169 x3.toInt.toNat (f_X12_higher (f_X12_byteAt (((Int32.ofInt 3) * x3) + (Int32.ofInt 1)) S) ((S 169 ((x3 + (Int32.ofInt 1)).toInt.toNat)) - (x2 * ((f_X12_hourOf (x3 + (Int32.ofInt 1)) S) - (f_X12_hourOf x3 S)))))) 170 x3.toInt.toNat (f_X12_lower (f_X12_byteAt (((Int32.ofInt 3) * x3) + (Int32.ofInt 2)) (z_s S 169 x3.toInt.toNat (f_X12_higher (f_X12_byteAt (((Int32.ofInt 3) * x3) + (Int32.ofInt 1)) S) ((S 169 ((x3 + (Int32.ofInt 1)).toInt.toNat)) - (x2 * ((f_X12_hourOf (x3 + (Int32.ofInt 1)) S) - (f_X12_hourOf x3 S))))))) ((S 170 ((x3 + (Int32.ofInt 1)).toInt.toNat)) + (x2 * ((f_X12_hourOf (x3 + (Int32.ofInt 1)) S) - (f_X12_hourOf x3 S)))))) hD
        · have hD := hD.2 h2
          show u_P L xs m d m_X12_laysBehind 15 [(0, .ref 100), (1, .int x1), (2, .int x2), (3, .int x3), (4, .int j4)] [] S R _
          refine u_st rfl (fun _ => rfl) ?_
          refine u_st rfl (fun _ => rfl) ?_
          refine u_st rfl (fun _ => rfl) ?_
          refine u_st rfl (fun _ => rfl) ?_
          show u_P L xs m d m_X12_laysBehind 37 [(4, .int (Int32.ofInt 0)), (0, .ref 100), (1, .int x1), (2, .int x2), (3, .int x3)] [.ref 100] S R _
          refine u_getr rfl v_tyM rfl ?_
          refine u_st rfl (fun _ => rfl) ?_
          refine u_st rfl (fun _ => rfl) ?_
          refine u_st rfl (fun _ => rfl) ?_
          refine u_st rfl (fun _ => rfl) ?_
          refine u_st rfl (fun _ => rfl) ?_
          refine u_st rfl (fun _ => rfl) ?_
          refine u_st rfl (fun _ => rfl) ?_
          show u_P L xs m d m_X12_laysBehind 47 [(4, .int (Int32.ofInt 0)), (0, .ref 100), (1, .int x1), (2, .int x2), (3, .int x3)] [.int (((Int32.ofInt 3) * x3) + (Int32.ofInt 1)), .ref 100, .int x3, .ref 170] S R _
          refine u_cv (rest := [.int x3, .ref 170]) rfl (by decide) mt_X12_byteAt v_tyM rfl rfl rfl (Nat.le_of_ble_eq_true rfl) (Nat.le_of_ble_eq_true rfl) (Nat.le_of_ble_eq_true rfl) (fun d' => c_X12_byteAt L xs m d' (((Int32.ofInt 3) * x3) + (Int32.ofInt 1)) S R) ?_
          rintro _ _ _ ⟨_, rfl, rfl, rfl, rfl⟩
          refine u_st rfl (fun _ => rfl) ?_
          refine u_st rfl (fun _ => rfl) ?_
          refine u_st rfl (fun _ => rfl) ?_
          refine u_st rfl (fun _ => rfl) ?_
          show u_P L xs m d m_X12_laysBehind 54 [(4, .int (Int32.ofInt 0)), (0, .ref 100), (1, .int x1), (2, .int x2), (3, .int x3)] [.int (x1 - (Int32.ofInt 1)), .int x3, .int (f_X12_byteAt (((Int32.ofInt 3) * x3) + (Int32.ofInt 1)) S), .int x3, .ref 170] S R _
          refine u_ic_ne rfl (fun h9 => absurd (Classical.not_not.mp h2) h9) (fun _ => ?_)
          show u_P L xs m d m_X12_laysBehind 57 [(4, .int (Int32.ofInt 0)), (0, .ref 100), (1, .int x1), (2, .int x2), (3, .int x3)] [.int (f_X12_byteAt (((Int32.ofInt 3) * x3) + (Int32.ofInt 1)) S), .int x3, .ref 170] S R _
          refine u_st rfl (fun _ => rfl) ?_
          refine u_st rfl (fun _ => rfl) ?_
          show u_P L xs m d m_X12_laysBehind 72 [(4, .int (Int32.ofInt 0)), (0, .ref 100), (1, .int x1), (2, .int x2), (3, .int x3)] [.int (Int32.ofInt 0), .int (f_X12_byteAt (((Int32.ofInt 3) * x3) + (Int32.ofInt 1)) S), .int x3, .ref 170] S R _
          refine u_cs (ac := [.int (f_X12_byteAt (((Int32.ofInt 3) * x3) + (Int32.ofInt 1)) S), .int (Int32.ofInt 0)]) (rest := [.int x3, .ref 170]) rfl (by decide) mt_X12_higher (fun _ => rfl) (Nat.le_of_ble_eq_true rfl) (Nat.le_of_ble_eq_true rfl) (fun d' => c_X12_higher L xs m d' (f_X12_byteAt (((Int32.ofInt 3) * x3) + (Int32.ofInt 1)) S) (Int32.ofInt 0) S R) ?_
          rintro _ _ _ ⟨_, rfl, rfl, rfl, rfl⟩
          show u_P L xs m d m_X12_laysBehind 75 [(4, .int (Int32.ofInt 0)), (0, .ref 100), (1, .int x1), (2, .int x2), (3, .int x3)] [.int (f_X12_higher (f_X12_byteAt (((Int32.ofInt 3) * x3) + (Int32.ofInt 1)) S) (Int32.ofInt 0)), .int x3, .ref 170] S R _
          refine u_iast rfl rfl (fun b101 b102 => ?_)
          have hD := hD b101 b102
          show u_P L xs m d m_X12_laysBehind 76 [(4, .int (Int32.ofInt 0)), (0, .ref 100), (1, .int x1), (2, .int x2), (3, .int x3)] [] (z_s S 169 x3.toInt.toNat (f_X12_higher (f_X12_byteAt (((Int32.ofInt 3) * x3) + (Int32.ofInt 1)) S) (Int32.ofInt 0))) R _
          refine u_st rfl (fun _ => rfl) ?_
          show u_P L xs m d m_X12_laysBehind 77 [(4, .int (Int32.ofInt 0)), (0, .ref 100), (1, .int x1), (2, .int x2), (3, .int x3)] [.ref 100] (z_s S 169 x3.toInt.toNat (f_X12_higher (f_X12_byteAt (((Int32.ofInt 3) * x3) + (Int32.ofInt 1)) S) (Int32.ofInt 0))) R _
          refine u_getr rfl v_tyM rfl ?_
          refine u_st rfl (fun _ => rfl) ?_
          refine u_st rfl (fun _ => rfl) ?_
          refine u_st rfl (fun _ => rfl) ?_
          refine u_st rfl (fun _ => rfl) ?_
          refine u_st rfl (fun _ => rfl) ?_
          refine u_st rfl (fun _ => rfl) ?_
          refine u_st rfl (fun _ => rfl) ?_
          show u_P L xs m d m_X12_laysBehind 87 [(4, .int (Int32.ofInt 0)), (0, .ref 100), (1, .int x1), (2, .int x2), (3, .int x3)] [.int (((Int32.ofInt 3) * x3) + (Int32.ofInt 2)), .ref 100, .int x3, .ref 171] (z_s S 169 x3.toInt.toNat (f_X12_higher (f_X12_byteAt (((Int32.ofInt 3) * x3) + (Int32.ofInt 1)) S) (Int32.ofInt 0))) R _
          refine u_cv (rest := [.int x3, .ref 171]) rfl (by decide) mt_X12_byteAt v_tyM rfl rfl rfl (Nat.le_of_ble_eq_true rfl) (Nat.le_of_ble_eq_true rfl) (Nat.le_of_ble_eq_true rfl) (fun d' => c_X12_byteAt L xs m d' (((Int32.ofInt 3) * x3) + (Int32.ofInt 2)) (z_s S 169 x3.toInt.toNat (f_X12_higher (f_X12_byteAt (((Int32.ofInt 3) * x3) + (Int32.ofInt 1)) S) (Int32.ofInt 0))) R) ?_
          rintro _ _ _ ⟨_, rfl, rfl, rfl, rfl⟩
          refine u_st rfl (fun _ => rfl) ?_
          refine u_st rfl (fun _ => rfl) ?_
          refine u_st rfl (fun _ => rfl) ?_
          refine u_st rfl (fun _ => rfl) ?_
          show u_P L xs m d m_X12_laysBehind 94 [(4, .int (Int32.ofInt 0)), (0, .ref 100), (1, .int x1), (2, .int x2), (3, .int x3)] [.int (x1 - (Int32.ofInt 1)), .int x3, .int (f_X12_byteAt (((Int32.ofInt 3) * x3) + (Int32.ofInt 2)) (z_s S 169 x3.toInt.toNat (f_X12_higher (f_X12_byteAt (((Int32.ofInt 3) * x3) + (Int32.ofInt 1)) S) (Int32.ofInt 0)))), .int x3, .ref 171] (z_s S 169 x3.toInt.toNat (f_X12_higher (f_X12_byteAt (((Int32.ofInt 3) * x3) + (Int32.ofInt 1)) S) (Int32.ofInt 0))) R _
          refine u_ic_ne rfl (fun h11 => absurd (Classical.not_not.mp h2) h11) (fun _ => ?_)
          show u_P L xs m d m_X12_laysBehind 97 [(4, .int (Int32.ofInt 0)), (0, .ref 100), (1, .int x1), (2, .int x2), (3, .int x3)] [.int (f_X12_byteAt (((Int32.ofInt 3) * x3) + (Int32.ofInt 2)) (z_s S 169 x3.toInt.toNat (f_X12_higher (f_X12_byteAt (((Int32.ofInt 3) * x3) + (Int32.ofInt 1)) S) (Int32.ofInt 0)))), .int x3, .ref 171] (z_s S 169 x3.toInt.toNat (f_X12_higher (f_X12_byteAt (((Int32.ofInt 3) * x3) + (Int32.ofInt 1)) S) (Int32.ofInt 0))) R _
          refine u_st rfl (fun _ => rfl) ?_
          refine u_st rfl (fun _ => rfl) ?_
          show u_P L xs m d m_X12_laysBehind 114 [(4, .int (Int32.ofInt 0)), (0, .ref 100), (1, .int x1), (2, .int x2), (3, .int x3)] [.int (Int32.ofInt 250), .int (f_X12_byteAt (((Int32.ofInt 3) * x3) + (Int32.ofInt 2)) (z_s S 169 x3.toInt.toNat (f_X12_higher (f_X12_byteAt (((Int32.ofInt 3) * x3) + (Int32.ofInt 1)) S) (Int32.ofInt 0)))), .int x3, .ref 171] (z_s S 169 x3.toInt.toNat (f_X12_higher (f_X12_byteAt (((Int32.ofInt 3) * x3) + (Int32.ofInt 1)) S) (Int32.ofInt 0))) R _
          refine u_cs (ac := [.int (f_X12_byteAt (((Int32.ofInt 3) * x3) + (Int32.ofInt 2)) (z_s S 169 x3.toInt.toNat (f_X12_higher (f_X12_byteAt (((Int32.ofInt 3) * x3) + (Int32.ofInt 1)) S) (Int32.ofInt 0)))), .int (Int32.ofInt 250)]) (rest := [.int x3, .ref 171]) rfl (by decide) mt_X12_lower (fun _ => rfl) (Nat.le_of_ble_eq_true rfl) (Nat.le_of_ble_eq_true rfl) (fun d' => c_X12_lower L xs m d' (f_X12_byteAt (((Int32.ofInt 3) * x3) + (Int32.ofInt 2)) (z_s S 169 x3.toInt.toNat (f_X12_higher (f_X12_byteAt (((Int32.ofInt 3) * x3) + (Int32.ofInt 1)) S) (Int32.ofInt 0)))) (Int32.ofInt 250) (z_s S 169 x3.toInt.toNat (f_X12_higher (f_X12_byteAt (((Int32.ofInt 3) * x3) + (Int32.ofInt 1)) S) (Int32.ofInt 0))) R) ?_
          rintro _ _ _ ⟨_, rfl, rfl, rfl, rfl⟩
          show u_P L xs m d m_X12_laysBehind 117 [(4, .int (Int32.ofInt 0)), (0, .ref 100), (1, .int x1), (2, .int x2), (3, .int x3)] [.int (f_X12_lower (f_X12_byteAt (((Int32.ofInt 3) * x3) + (Int32.ofInt 2)) (z_s S 169 x3.toInt.toNat (f_X12_higher (f_X12_byteAt (((Int32.ofInt 3) * x3) + (Int32.ofInt 1)) S) (Int32.ofInt 0)))) (Int32.ofInt 250)), .int x3, .ref 171] (z_s S 169 x3.toInt.toNat (f_X12_higher (f_X12_byteAt (((Int32.ofInt 3) * x3) + (Int32.ofInt 1)) S) (Int32.ofInt 0))) R _
          refine u_iast rfl rfl (fun b121 b122 => ?_)
          have hD := hD b121 b122
          show u_P L xs m d m_X12_laysBehind 118 [(4, .int (Int32.ofInt 0)), (0, .ref 100), (1, .int x1), (2, .int x2), (3, .int x3)] [] (z_s (z_s S 169 x3.toInt.toNat (f_X12_higher (f_X12_byteAt (((Int32.ofInt 3) * x3) + (Int32.ofInt 1)) S) (Int32.ofInt 0))) 170 x3.toInt.toNat (f_X12_lower (f_X12_byteAt (((Int32.ofInt 3) * x3) + (Int32.ofInt 2)) (z_s S 169 x3.toInt.toNat (f_X12_higher (f_X12_byteAt (((Int32.ofInt 3) * x3) + (Int32.ofInt 1)) S) (Int32.ofInt 0)))) (Int32.ofInt 250))) R _
          refine u_st rfl (fun _ => rfl) ?_
          refine u_st rfl (fun _ => rfl) ?_
          refine u_lc (b := [(0, .ref 100), (1, .int x1), (2, .int x2), (3, .int (x3 + (Int32.ofInt (-1)))), (4, .int (Int32.ofInt 0))]) (show ([3, 4, 0, 1, 2] : List Nat).Nodup by decide) (show ([0, 1, 2, 3, 4] : List Nat).Nodup by decide) (fun i => match i with | 0 => rfl | 1 => rfl | 2 => rfl | 3 => rfl | 4 => rfl | _ + 5 => rfl) ?_
          exact (ih m hm).2 d (Int32.ofInt 0) x1 x2 (x3 + (Int32.ofInt (-1))) (z_s (z_s S 169 x3.toInt.toNat (f_X12_higher (f_X12_byteAt (((Int32.ofInt 3) * x3) + (Int32.ofInt 1)) S) (Int32.ofInt 0))) 170 x3.toInt.toNat (f_X12_lower (f_X12_byteAt (((Int32.ofInt 3) * x3) + (Int32.ofInt 2)) (z_s S 169 x3.toInt.toNat (f_X12_higher (f_X12_byteAt (((Int32.ofInt 3) * x3) + (Int32.ofInt 1)) S) (Int32.ofInt 0)))) (Int32.ofInt 250))) hD
set_option maxRecDepth 4000 in
theorem w_X12_laysBehind (L : Nat) (xs : Nat → Int32) {R : v_Rf} (a : Int32) (b : Int32) (H4 : Int32 → Int32 → Int32 → v_Sf → Prop) (K : v_Sf → Prop) (k4 : ∀ (x1 : Int32) (x2 : Int32) (x3 : Int32) (S : v_Sf), H4 x1 x2 x3 S → D_X12_laysBehind_4 H4 K x1 x2 x3 S) (n d : Nat) (S : v_Sf) (hD : D_X12_laysBehind a b H4 K S) : u_P L xs n d m_X12_laysBehind 0 (lv_args 0 [.ref 100, .int a, .int b]) [] S R (z_V R K) := by
  unfold D_X12_laysBehind at hD
  show u_P L xs n d m_X12_laysBehind 0 [(0, .ref 100), (1, .int a), (2, .int b)] [] S R _
  refine u_st rfl (fun _ => rfl) ?_
  refine u_st rfl (fun _ => rfl) ?_
  refine u_st rfl (fun _ => rfl) ?_
  refine u_st rfl (fun _ => rfl) ?_
  refine u_lc (b := [(0, .ref 100), (1, .int a), (2, .int b), (3, .int (a - (Int32.ofInt 1)))]) (show ([3, 0, 1, 2] : List Nat).Nodup by decide) (show ([0, 1, 2, 3] : List Nat).Nodup by decide) (fun i => match i with | 0 => rfl | 1 => rfl | 2 => rfl | 3 => rfl | _ + 4 => rfl) ?_
  exact (hd_X12_laysBehind L xs a b H4 K k4 n).1 d a b (a - (Int32.ofInt 1)) S hD
noncomputable def r_X12_laysBehind_4 (x1 : Int32) (x2 : Int32) : Nat → Int32 → v_Sf → v_Sf
  | 0, x3, S => S
  | r + 1, x3, S => (if ¬ x3 = (x1 - (Int32.ofInt 1)) then r_X12_laysBehind_4 x1 x2 r (x3 + (Int32.ofInt (-1))) (z_s (z_s S 169 x3.toInt.toNat (f_X12_higher (f_X12_byteAt (((Int32.ofInt 3) * x3) + (Int32.ofInt 1)) S) ((S 169 ((x3 + (Int32.ofInt 1)).toInt.toNat)) - (x2 * ((f_X12_hourOf (x3 + (Int32.ofInt 1)) S) - (f_X12_hourOf x3 S)))))) 170 x3.toInt.toNat (f_X12_lower (f_X12_byteAt (((Int32.ofInt 3) * x3) + (Int32.ofInt 2)) (z_s S 169 x3.toInt.toNat (f_X12_higher (f_X12_byteAt (((Int32.ofInt 3) * x3) + (Int32.ofInt 1)) S) ((S 169 ((x3 + (Int32.ofInt 1)).toInt.toNat)) - (x2 * ((f_X12_hourOf (x3 + (Int32.ofInt 1)) S) - (f_X12_hourOf x3 S))))))) ((S 170 ((x3 + (Int32.ofInt 1)).toInt.toNat)) + (x2 * ((f_X12_hourOf (x3 + (Int32.ofInt 1)) S) - (f_X12_hourOf x3 S)))))) else r_X12_laysBehind_4 x1 x2 r (x3 + (Int32.ofInt (-1))) (z_s (z_s S 169 x3.toInt.toNat (f_X12_higher (f_X12_byteAt (((Int32.ofInt 3) * x3) + (Int32.ofInt 1)) S) (Int32.ofInt 0))) 170 x3.toInt.toNat (f_X12_lower (f_X12_byteAt (((Int32.ofInt 3) * x3) + (Int32.ofInt 2)) (z_s S 169 x3.toInt.toNat (f_X12_higher (f_X12_byteAt (((Int32.ofInt 3) * x3) + (Int32.ofInt 1)) S) (Int32.ofInt 0)))) (Int32.ofInt 250))))
noncomputable def F_X12_laysBehind (a : Int32) (b : Int32) (S : v_Sf) : v_Sf := r_X12_laysBehind_4 a b ((a - (Int32.ofInt 1)).toInt + 1).toNat (a - (Int32.ofInt 1)) S
noncomputable def g_X12_laysBehind (a : Int32) (b : Int32) (S : v_Sf) : v_Sf := F_X12_laysBehind a b S
theorem c_X12_laysBehind (L : Nat) (xs : Nat → Int32) (n d : Nat) (a : Int32) (b : Int32) (S : v_Sf) (R : v_Rf) : u_P L xs n d m_X12_laysBehind 0 (lv_args 0 [.ref 100, .int a, .int b]) [] S R (z_V R (fun S1 => g_X12_laysBehind a b S = S1)) := by
  refine w_X12_laysBehind L xs a b (fun y1 y2 y3 T => a = y1 ∧ b = y2 ∧ r_X12_laysBehind_4 a b (y3.toInt + 1).toNat y3 T = F_X12_laysBehind a b S) (fun S1 => g_X12_laysBehind a b S = S1) ?_ n d S ?_
  · rintro _ _ x3 S1 ⟨rfl, rfl, e⟩
    unfold D_X12_laysBehind_4
    rcases Classical.em (x3 < 0) with hk | hk
    · rw [z_dn0 hk, r_X12_laysBehind_4] at e
      refine ⟨fun q1 => ?_, fun q1 => ?_⟩
      · exact e.symm
      · exact absurd hk q1
    · rw [z_dn hk, r_X12_laysBehind_4] at e
      refine ⟨fun q2 => ?_, fun q2 => ?_⟩
      · exact absurd q2 hk
      · refine ⟨fun q3 => ?_, fun q3 => ?_⟩
        · intro _ _
          intro _ _
          intro _ _
          intro _ _
          rw [if_pos q3] at e
          exact ⟨rfl, rfl, e⟩
        · intro _ _
          intro _ _
          rw [if_neg q3] at e
          exact ⟨rfl, rfl, e⟩
  · unfold D_X12_laysBehind
    have e : r_X12_laysBehind_4 a b ((a - (Int32.ofInt 1)).toInt + 1).toNat (a - (Int32.ofInt 1)) S = F_X12_laysBehind a b S := by rw [F_X12_laysBehind]
    exact ⟨rfl, rfl, e⟩
noncomputable abbrev m_X12_escaped : g_M := (g_cn 12, yX12_escaped, cX12_escaped, 9, (some .int), g_look2 ttX12_escaped)
set_option maxRecDepth 20000 in
theorem mt_X12_escaped : g_mt 285 = some m_X12_escaped := rfl
noncomputable def D_X12_escaped_69  (H69 : Int32 → Int32 → Int32 → Int32 → Int32 → v_Sf → Prop) (H174 : Int32 → Int32 → Int32 → Int32 → Int32 → Int32 → Int32 → v_Sf → Prop) (K : Int32 → v_Sf → Prop) (x1 : Int32) (x2 : Int32) (x3 : Int32) (x4 : Int32) (x5 : Int32) (S : v_Sf) : Prop := ((x1 ≤ x5 → (((¬ (f_X12_laysAhead x1 x2 S) = 0) → H174 x1 x2 x3 x4 (Int32.ofInt 0) (Int32.ofInt 250) (Int32.ofInt 0) (g_X12_laysBehind x1 x2 (g_X12_laysAhead x1 x2 S))) ∧ (¬ (¬ (f_X12_laysAhead x1 x2 S) = 0) → K (Int32.ofInt (-2)) (g_X12_laysAhead x1 x2 S)))) ∧ (¬ (x1 ≤ x5) → (((Int32.ofInt 250) < (f_X12_byteAt (((Int32.ofInt 3) * x5) + (Int32.ofInt 2)) S) → K (Int32.ofInt (-3)) S) ∧ (¬ ((Int32.ofInt 250) < (f_X12_byteAt (((Int32.ofInt 3) * x5) + (Int32.ofInt 2)) S)) → (((f_X12_byteAt (((Int32.ofInt 3) * x5) + (Int32.ofInt 2)) S) < (f_X12_byteAt (((Int32.ofInt 3) * x5) + (Int32.ofInt 1)) S) → K (Int32.ofInt (-3)) S) ∧ (¬ ((f_X12_byteAt (((Int32.ofInt 3) * x5) + (Int32.ofInt 2)) S) < (f_X12_byteAt (((Int32.ofInt 3) * x5) + (Int32.ofInt 1)) S)) → ((x5 ≤ 0 → H69 x1 x2 x3 x4 (x5 + (Int32.ofInt 1)) S) ∧ (¬ (x5 ≤ 0) → (((f_X12_hourOf (x5 - (Int32.ofInt 1)) S) < (f_X12_hourOf x5 S) → H69 x1 x2 x3 x4 (x5 + (Int32.ofInt 1)) S) ∧ (¬ ((f_X12_hourOf (x5 - (Int32.ofInt 1)) S) < (f_X12_hourOf x5 S)) → K (Int32.ofInt (-3)) S))))))))))
noncomputable def D_X12_escaped_174  (H69 : Int32 → Int32 → Int32 → Int32 → Int32 → v_Sf → Prop) (H174 : Int32 → Int32 → Int32 → Int32 → Int32 → Int32 → Int32 → v_Sf → Prop) (K : Int32 → v_Sf → Prop) (x1 : Int32) (x2 : Int32) (x3 : Int32) (x4 : Int32) (x5 : Int32) (x6 : Int32) (x7 : Int32) (S : v_Sf) : Prop := ((x1 ≤ x7 → (((¬ x4 = 0) → (((¬ x4 = (Int32.ofInt 1)) → (¬ x4 = 0 → K (((x6 - x5) + x4) / x4) S)) ∧ (¬ (¬ x4 = (Int32.ofInt 1)) → K x6 S))) ∧ (¬ (¬ x4 = 0) → K x5 S))) ∧ (¬ (x1 ≤ x7) → ((x3 ≤ (f_X12_hourOf x7 S) → ((x3 < (f_X12_hourOf x7 S) → (((f_X12_hourOf x7 S) ≤ x3 → H174 x1 x2 x3 x4 x5 x6 (x7 + (Int32.ofInt 1)) S) ∧ (¬ ((f_X12_hourOf x7 S) ≤ x3) → ((x7 = 0 → (0 ≤ x7.toInt → x7.toInt < 8 → (0 ≤ x7.toInt → x7.toInt < 8 → H174 x1 x2 x3 x4 (f_X12_higher x5 ((S 169 x7.toInt.toNat) - (x2 * ((f_X12_hourOf x7 S) - x3)))) (f_X12_lower x6 ((S 170 x7.toInt.toNat) + (x2 * ((f_X12_hourOf x7 S) - x3)))) (x7 + (Int32.ofInt 1)) S))) ∧ (¬ (x7 = 0) → ((x3 < (f_X12_hourOf (x7 - (Int32.ofInt 1)) S) → H174 x1 x2 x3 x4 x5 x6 (x7 + (Int32.ofInt 1)) S) ∧ (¬ (x3 < (f_X12_hourOf (x7 - (Int32.ofInt 1)) S)) → (0 ≤ x7.toInt → x7.toInt < 8 → (0 ≤ x7.toInt → x7.toInt < 8 → H174 x1 x2 x3 x4 (f_X12_higher x5 ((S 169 x7.toInt.toNat) - (x2 * ((f_X12_hourOf x7 S) - x3)))) (f_X12_lower x6 ((S 170 x7.toInt.toNat) + (x2 * ((f_X12_hourOf x7 S) - x3)))) (x7 + (Int32.ofInt 1)) S))))))))) ∧ (¬ (x3 < (f_X12_hourOf x7 S)) → (((x7 + (Int32.ofInt 1)) = x1 → (0 ≤ x7.toInt → x7.toInt < 8 → (0 ≤ x7.toInt → x7.toInt < 8 → (((f_X12_hourOf x7 S) ≤ x3 → H174 x1 x2 x3 x4 (f_X12_higher x5 ((S 167 x7.toInt.toNat) - (x2 * ((f_X12_hourOf x7 S) - x3)))) (f_X12_lower x6 ((S 168 x7.toInt.toNat) + (x2 * ((f_X12_hourOf x7 S) - x3)))) (x7 + (Int32.ofInt 1)) S) ∧ (¬ ((f_X12_hourOf x7 S) ≤ x3) → ((x7 = 0 → (0 ≤ x7.toInt → x7.toInt < 8 → (0 ≤ x7.toInt → x7.toInt < 8 → H174 x1 x2 x3 x4 (f_X12_higher (f_X12_higher x5 ((S 167 x7.toInt.toNat) - (x2 * ((f_X12_hourOf x7 S) - x3)))) ((S 169 x7.toInt.toNat) - (x2 * ((f_X12_hourOf x7 S) - x3)))) (f_X12_lower (f_X12_lower x6 ((S 168 x7.toInt.toNat) + (x2 * ((f_X12_hourOf x7 S) - x3)))) ((S 170 x7.toInt.toNat) + (x2 * ((f_X12_hourOf x7 S) - x3)))) (x7 + (Int32.ofInt 1)) S))) ∧ (¬ (x7 = 0) → ((x3 < (f_X12_hourOf (x7 - (Int32.ofInt 1)) S) → H174 x1 x2 x3 x4 (f_X12_higher x5 ((S 167 x7.toInt.toNat) - (x2 * ((f_X12_hourOf x7 S) - x3)))) (f_X12_lower x6 ((S 168 x7.toInt.toNat) + (x2 * ((f_X12_hourOf x7 S) - x3)))) (x7 + (Int32.ofInt 1)) S) ∧ (¬ (x3 < (f_X12_hourOf (x7 - (Int32.ofInt 1)) S)) → (0 ≤ x7.toInt → x7.toInt < 8 → (0 ≤ x7.toInt → x7.toInt < 8 → H174 x1 x2 x3 x4 (f_X12_higher (f_X12_higher x5 ((S 167 x7.toInt.toNat) - (x2 * ((f_X12_hourOf x7 S) - x3)))) ((S 169 x7.toInt.toNat) - (x2 * ((f_X12_hourOf x7 S) - x3)))) (f_X12_lower (f_X12_lower x6 ((S 168 x7.toInt.toNat) + (x2 * ((f_X12_hourOf x7 S) - x3)))) ((S 170 x7.toInt.toNat) + (x2 * ((f_X12_hourOf x7 S) - x3)))) (x7 + (Int32.ofInt 1)) S))))))))))) ∧ (¬ ((x7 + (Int32.ofInt 1)) = x1) → (((f_X12_hourOf (x7 + (Int32.ofInt 1)) S) ≤ x3 → (((f_X12_hourOf x7 S) ≤ x3 → H174 x1 x2 x3 x4 x5 x6 (x7 + (Int32.ofInt 1)) S) ∧ (¬ ((f_X12_hourOf x7 S) ≤ x3) → ((x7 = 0 → (0 ≤ x7.toInt → x7.toInt < 8 → (0 ≤ x7.toInt → x7.toInt < 8 → H174 x1 x2 x3 x4 (f_X12_higher x5 ((S 169 x7.toInt.toNat) - (x2 * ((f_X12_hourOf x7 S) - x3)))) (f_X12_lower x6 ((S 170 x7.toInt.toNat) + (x2 * ((f_X12_hourOf x7 S) - x3)))) (x7 + (Int32.ofInt 1)) S))) ∧ (¬ (x7 = 0) → ((x3 < (f_X12_hourOf (x7 - (Int32.ofInt 1)) S) → H174 x1 x2 x3 x4 x5 x6 (x7 + (Int32.ofInt 1)) S) ∧ (¬ (x3 < (f_X12_hourOf (x7 - (Int32.ofInt 1)) S)) → (0 ≤ x7.toInt → x7.toInt < 8 → (0 ≤ x7.toInt → x7.toInt < 8 → H174 x1 x2 x3 x4 (f_X12_higher x5 ((S 169 x7.toInt.toNat) - (x2 * ((f_X12_hourOf x7 S) - x3)))) (f_X12_lower x6 ((S 170 x7.toInt.toNat) + (x2 * ((f_X12_hourOf x7 S) - x3)))) (x7 + (Int32.ofInt 1)) S))))))))) ∧ (¬ ((f_X12_hourOf (x7 + (Int32.ofInt 1)) S) ≤ x3) → (0 ≤ x7.toInt → x7.toInt < 8 → (0 ≤ x7.toInt → x7.toInt < 8 → (((f_X12_hourOf x7 S) ≤ x3 → H174 x1 x2 x3 x4 (f_X12_higher x5 ((S 167 x7.toInt.toNat) - (x2 * ((f_X12_hourOf x7 S) - x3)))) (f_X12_lower x6 ((S 168 x7.toInt.toNat) + (x2 * ((f_X12_hourOf x7 S) - x3)))) (x7 + (Int32.ofInt 1)) S) ∧ (¬ ((f_X12_hourOf x7 S) ≤ x3) → ((x7 = 0 → (0 ≤ x7.toInt → x7.toInt < 8 → (0 ≤ x7.toInt → x7.toInt < 8 → H174 x1 x2 x3 x4 (f_X12_higher (f_X12_higher x5 ((S 167 x7.toInt.toNat) - (x2 * ((f_X12_hourOf x7 S) - x3)))) ((S 169 x7.toInt.toNat) - (x2 * ((f_X12_hourOf x7 S) - x3)))) (f_X12_lower (f_X12_lower x6 ((S 168 x7.toInt.toNat) + (x2 * ((f_X12_hourOf x7 S) - x3)))) ((S 170 x7.toInt.toNat) + (x2 * ((f_X12_hourOf x7 S) - x3)))) (x7 + (Int32.ofInt 1)) S))) ∧ (¬ (x7 = 0) → ((x3 < (f_X12_hourOf (x7 - (Int32.ofInt 1)) S) → H174 x1 x2 x3 x4 (f_X12_higher x5 ((S 167 x7.toInt.toNat) - (x2 * ((f_X12_hourOf x7 S) - x3)))) (f_X12_lower x6 ((S 168 x7.toInt.toNat) + (x2 * ((f_X12_hourOf x7 S) - x3)))) (x7 + (Int32.ofInt 1)) S) ∧ (¬ (x3 < (f_X12_hourOf (x7 - (Int32.ofInt 1)) S)) → (0 ≤ x7.toInt → x7.toInt < 8 → (0 ≤ x7.toInt → x7.toInt < 8 → H174 x1 x2 x3 x4 (f_X12_higher (f_X12_higher x5 ((S 167 x7.toInt.toNat) - (x2 * ((f_X12_hourOf x7 S) - x3)))) ((S 169 x7.toInt.toNat) - (x2 * ((f_X12_hourOf x7 S) - x3)))) (f_X12_lower (f_X12_lower x6 ((S 168 x7.toInt.toNat) + (x2 * ((f_X12_hourOf x7 S) - x3)))) ((S 170 x7.toInt.toNat) + (x2 * ((f_X12_hourOf x7 S) - x3)))) (x7 + (Int32.ofInt 1)) S))))))))))))))))) ∧ (¬ (x3 ≤ (f_X12_hourOf x7 S)) → ((x3 < (f_X12_hourOf x7 S) → (((f_X12_hourOf x7 S) ≤ x3 → H174 x1 x2 x3 x4 x5 x6 (x7 + (Int32.ofInt 1)) S) ∧ (¬ ((f_X12_hourOf x7 S) ≤ x3) → ((x7 = 0 → (0 ≤ x7.toInt → x7.toInt < 8 → (0 ≤ x7.toInt → x7.toInt < 8 → H174 x1 x2 x3 x4 (f_X12_higher x5 ((S 169 x7.toInt.toNat) - (x2 * (x3 - (f_X12_hourOf x7 S))))) (f_X12_lower x6 ((S 170 x7.toInt.toNat) + (x2 * (x3 - (f_X12_hourOf x7 S))))) (x7 + (Int32.ofInt 1)) S))) ∧ (¬ (x7 = 0) → ((x3 < (f_X12_hourOf (x7 - (Int32.ofInt 1)) S) → H174 x1 x2 x3 x4 x5 x6 (x7 + (Int32.ofInt 1)) S) ∧ (¬ (x3 < (f_X12_hourOf (x7 - (Int32.ofInt 1)) S)) → (0 ≤ x7.toInt → x7.toInt < 8 → (0 ≤ x7.toInt → x7.toInt < 8 → H174 x1 x2 x3 x4 (f_X12_higher x5 ((S 169 x7.toInt.toNat) - (x2 * (x3 - (f_X12_hourOf x7 S))))) (f_X12_lower x6 ((S 170 x7.toInt.toNat) + (x2 * (x3 - (f_X12_hourOf x7 S))))) (x7 + (Int32.ofInt 1)) S))))))))) ∧ (¬ (x3 < (f_X12_hourOf x7 S)) → (((x7 + (Int32.ofInt 1)) = x1 → (0 ≤ x7.toInt → x7.toInt < 8 → (0 ≤ x7.toInt → x7.toInt < 8 → (((f_X12_hourOf x7 S) ≤ x3 → H174 x1 x2 x3 x4 (f_X12_higher x5 ((S 167 x7.toInt.toNat) - (x2 * (x3 - (f_X12_hourOf x7 S))))) (f_X12_lower x6 ((S 168 x7.toInt.toNat) + (x2 * (x3 - (f_X12_hourOf x7 S))))) (x7 + (Int32.ofInt 1)) S) ∧ (¬ ((f_X12_hourOf x7 S) ≤ x3) → ((x7 = 0 → (0 ≤ x7.toInt → x7.toInt < 8 → (0 ≤ x7.toInt → x7.toInt < 8 → H174 x1 x2 x3 x4 (f_X12_higher (f_X12_higher x5 ((S 167 x7.toInt.toNat) - (x2 * (x3 - (f_X12_hourOf x7 S))))) ((S 169 x7.toInt.toNat) - (x2 * (x3 - (f_X12_hourOf x7 S))))) (f_X12_lower (f_X12_lower x6 ((S 168 x7.toInt.toNat) + (x2 * (x3 - (f_X12_hourOf x7 S))))) ((S 170 x7.toInt.toNat) + (x2 * (x3 - (f_X12_hourOf x7 S))))) (x7 + (Int32.ofInt 1)) S))) ∧ (¬ (x7 = 0) → ((x3 < (f_X12_hourOf (x7 - (Int32.ofInt 1)) S) → H174 x1 x2 x3 x4 (f_X12_higher x5 ((S 167 x7.toInt.toNat) - (x2 * (x3 - (f_X12_hourOf x7 S))))) (f_X12_lower x6 ((S 168 x7.toInt.toNat) + (x2 * (x3 - (f_X12_hourOf x7 S))))) (x7 + (Int32.ofInt 1)) S) ∧ (¬ (x3 < (f_X12_hourOf (x7 - (Int32.ofInt 1)) S)) → (0 ≤ x7.toInt → x7.toInt < 8 → (0 ≤ x7.toInt → x7.toInt < 8 → H174 x1 x2 x3 x4 (f_X12_higher (f_X12_higher x5 ((S 167 x7.toInt.toNat) - (x2 * (x3 - (f_X12_hourOf x7 S))))) ((S 169 x7.toInt.toNat) - (x2 * (x3 - (f_X12_hourOf x7 S))))) (f_X12_lower (f_X12_lower x6 ((S 168 x7.toInt.toNat) + (x2 * (x3 - (f_X12_hourOf x7 S))))) ((S 170 x7.toInt.toNat) + (x2 * (x3 - (f_X12_hourOf x7 S))))) (x7 + (Int32.ofInt 1)) S))))))))))) ∧ (¬ ((x7 + (Int32.ofInt 1)) = x1) → (((f_X12_hourOf (x7 + (Int32.ofInt 1)) S) ≤ x3 → (((f_X12_hourOf x7 S) ≤ x3 → H174 x1 x2 x3 x4 x5 x6 (x7 + (Int32.ofInt 1)) S) ∧ (¬ ((f_X12_hourOf x7 S) ≤ x3) → ((x7 = 0 → (0 ≤ x7.toInt → x7.toInt < 8 → (0 ≤ x7.toInt → x7.toInt < 8 → H174 x1 x2 x3 x4 (f_X12_higher x5 ((S 169 x7.toInt.toNat) - (x2 * (x3 - (f_X12_hourOf x7 S))))) (f_X12_lower x6 ((S 170 x7.toInt.toNat) + (x2 * (x3 - (f_X12_hourOf x7 S))))) (x7 + (Int32.ofInt 1)) S))) ∧ (¬ (x7 = 0) → ((x3 < (f_X12_hourOf (x7 - (Int32.ofInt 1)) S) → H174 x1 x2 x3 x4 x5 x6 (x7 + (Int32.ofInt 1)) S) ∧ (¬ (x3 < (f_X12_hourOf (x7 - (Int32.ofInt 1)) S)) → (0 ≤ x7.toInt → x7.toInt < 8 → (0 ≤ x7.toInt → x7.toInt < 8 → H174 x1 x2 x3 x4 (f_X12_higher x5 ((S 169 x7.toInt.toNat) - (x2 * (x3 - (f_X12_hourOf x7 S))))) (f_X12_lower x6 ((S 170 x7.toInt.toNat) + (x2 * (x3 - (f_X12_hourOf x7 S))))) (x7 + (Int32.ofInt 1)) S))))))))) ∧ (¬ ((f_X12_hourOf (x7 + (Int32.ofInt 1)) S) ≤ x3) → (0 ≤ x7.toInt → x7.toInt < 8 → (0 ≤ x7.toInt → x7.toInt < 8 → (((f_X12_hourOf x7 S) ≤ x3 → H174 x1 x2 x3 x4 (f_X12_higher x5 ((S 167 x7.toInt.toNat) - (x2 * (x3 - (f_X12_hourOf x7 S))))) (f_X12_lower x6 ((S 168 x7.toInt.toNat) + (x2 * (x3 - (f_X12_hourOf x7 S))))) (x7 + (Int32.ofInt 1)) S) ∧ (¬ ((f_X12_hourOf x7 S) ≤ x3) → ((x7 = 0 → (0 ≤ x7.toInt → x7.toInt < 8 → (0 ≤ x7.toInt → x7.toInt < 8 → H174 x1 x2 x3 x4 (f_X12_higher (f_X12_higher x5 ((S 167 x7.toInt.toNat) - (x2 * (x3 - (f_X12_hourOf x7 S))))) ((S 169 x7.toInt.toNat) - (x2 * (x3 - (f_X12_hourOf x7 S))))) (f_X12_lower (f_X12_lower x6 ((S 168 x7.toInt.toNat) + (x2 * (x3 - (f_X12_hourOf x7 S))))) ((S 170 x7.toInt.toNat) + (x2 * (x3 - (f_X12_hourOf x7 S))))) (x7 + (Int32.ofInt 1)) S))) ∧ (¬ (x7 = 0) → ((x3 < (f_X12_hourOf (x7 - (Int32.ofInt 1)) S) → H174 x1 x2 x3 x4 (f_X12_higher x5 ((S 167 x7.toInt.toNat) - (x2 * (x3 - (f_X12_hourOf x7 S))))) (f_X12_lower x6 ((S 168 x7.toInt.toNat) + (x2 * (x3 - (f_X12_hourOf x7 S))))) (x7 + (Int32.ofInt 1)) S) ∧ (¬ (x3 < (f_X12_hourOf (x7 - (Int32.ofInt 1)) S)) → (0 ≤ x7.toInt → x7.toInt < 8 → (0 ≤ x7.toInt → x7.toInt < 8 → H174 x1 x2 x3 x4 (f_X12_higher (f_X12_higher x5 ((S 167 x7.toInt.toNat) - (x2 * (x3 - (f_X12_hourOf x7 S))))) ((S 169 x7.toInt.toNat) - (x2 * (x3 - (f_X12_hourOf x7 S))))) (f_X12_lower (f_X12_lower x6 ((S 168 x7.toInt.toNat) + (x2 * (x3 - (f_X12_hourOf x7 S))))) ((S 170 x7.toInt.toNat) + (x2 * (x3 - (f_X12_hourOf x7 S))))) (x7 + (Int32.ofInt 1)) S))))))))))))))))))))
noncomputable def D_X12_escaped (a : Int32) (b : Int32) (i : Int32) (j : Int32) (H69 : Int32 → Int32 → Int32 → Int32 → Int32 → v_Sf → Prop) (H174 : Int32 → Int32 → Int32 → Int32 → Int32 → Int32 → Int32 → v_Sf → Prop) (K : Int32 → v_Sf → Prop) (S : v_Sf) : Prop := (((z_in a 1 8) = 0 → K (Int32.ofInt (-1)) S) ∧ (¬ ((z_in a 1 8) = 0) → (((z_in b 0 99) = 0 → K (Int32.ofInt (-1)) S) ∧ (¬ ((z_in b 0 99) = 0) → (((z_in i 0 255) = 0 → K (Int32.ofInt (-1)) S) ∧ (¬ ((z_in i 0 255) = 0) → (((z_in j 0 99) = 0 → K (Int32.ofInt (-1)) S) ∧ (¬ ((z_in j 0 99) = 0) → ((((Int32.ofInt 3) * a) ≤ (S 99 1) → H69 a b i j (Int32.ofInt 0) (z_s S 99 1 (Int32.ofInt 0))) ∧ (¬ (((Int32.ofInt 3) * a) ≤ (S 99 1)) → K (Int32.ofInt (-1)) S))))))))))
set_option maxRecDepth 4000 in
theorem hd_X12_escaped (L : Nat) (xs : Nat → Int32) {R : v_Rf} (a : Int32) (b : Int32) (i : Int32) (j : Int32) (H69 : Int32 → Int32 → Int32 → Int32 → Int32 → v_Sf → Prop) (H174 : Int32 → Int32 → Int32 → Int32 → Int32 → Int32 → Int32 → v_Sf → Prop) (K : Int32 → v_Sf → Prop) (k69 : ∀ (x1 : Int32) (x2 : Int32) (x3 : Int32) (x4 : Int32) (x5 : Int32) (S : v_Sf), H69 x1 x2 x3 x4 x5 S → D_X12_escaped_69 H69 H174 K x1 x2 x3 x4 x5 S) (k174 : ∀ (x1 : Int32) (x2 : Int32) (x3 : Int32) (x4 : Int32) (x5 : Int32) (x6 : Int32) (x7 : Int32) (S : v_Sf), H174 x1 x2 x3 x4 x5 x6 x7 S → D_X12_escaped_174 H69 H174 K x1 x2 x3 x4 x5 x6 x7 S) : ∀ n, (∀ (d : Nat) (x1 : Int32) (x2 : Int32) (x3 : Int32) (x4 : Int32) (x5 : Int32) (S : v_Sf), H69 x1 x2 x3 x4 x5 S → u_P L xs n d m_X12_escaped 69 [(0, .ref 100), (1, .int x1), (2, .int x2), (3, .int x3), (4, .int x4), (5, .int x5)] [] S R (z_Q R K)) ∧ (∀ (d : Nat) (x1 : Int32) (x2 : Int32) (x3 : Int32) (x4 : Int32) (x5 : Int32) (x6 : Int32) (x7 : Int32) (S : v_Sf), H174 x1 x2 x3 x4 x5 x6 x7 S → u_P L xs n d m_X12_escaped 174 [(0, .ref 100), (1, .int x1), (2, .int x2), (3, .int x3), (4, .int x4), (5, .int x5), (6, .int x6), (7, .int x7)] [] S R (z_Q R K)) ∧ (∀ (d : Nat) (j8 : Int32) (x1 : Int32) (x2 : Int32) (x3 : Int32) (x4 : Int32) (x5 : Int32) (x6 : Int32) (x7 : Int32) (S : v_Sf), H174 x1 x2 x3 x4 x5 x6 x7 S → u_P L xs n d m_X12_escaped 174 [(0, .ref 100), (1, .int x1), (2, .int x2), (3, .int x3), (4, .int x4), (5, .int x5), (6, .int x6), (7, .int x7), (8, .int j8)] [] S R (z_Q R K)) := by
  intro n
  induction n using Nat.strongRecOn with
  | ind n ih =>
    refine ⟨?_, ?_, ?_⟩
    · intro d x1 x2 x3 x4 x5 S hD
      have hD := k69 x1 x2 x3 x4 x5 S hD
      unfold D_X12_escaped_69 at hD
      show u_P L xs n d m_X12_escaped 69 [(0, .ref 100), (1, .int x1), (2, .int x2), (3, .int x3), (4, .int x4), (5, .int x5)] [] S R _
      refine u_st1 rfl (fun _ => rfl) (fun m hm => ?_)
      refine u_st rfl (fun _ => rfl) ?_
      show u_P L xs m d m_X12_escaped 72 [(0, .ref 100), (1, .int x1), (2, .int x2), (3, .int x3), (4, .int x4), (5, .int x5)] [.int x1, .int x5] S R _
      refine u_ic_ge rfl (fun h1 => ?_) (fun h1 => ?_)
      · have hD := hD.1 h1
        show u_P L xs m d m_X12_escaped 145 [(0, .ref 100), (1, .int x1), (2, .int x2), (3, .int x3), (4, .int x4), (5, .int x5)] [] S R _
        refine u_st rfl (fun _ => rfl) ?_
        refine u_st rfl (fun _ => rfl) ?_
        refine u_st rfl (fun _ => rfl) ?_
        show u_P L xs m d m_X12_escaped 148 [(0, .ref 100), (1, .int x1), (2, .int x2), (3, .int x3), (4, .int x4), (5, .int x5)] [.int x2, .int x1, .ref 100] S R _
        refine u_cv (rest := []) rfl (by decide) mt_X12_laysAhead v_tyM rfl rfl rfl (Nat.le_of_ble_eq_true rfl) (Nat.le_of_ble_eq_true rfl) (Nat.le_of_ble_eq_true rfl) (fun d' => c_X12_laysAhead L xs m d' x1 x2 S R) ?_
        rintro _ _ _ ⟨_, rfl, rfl, rfl, rfl⟩
        show u_P L xs m d m_X12_escaped 151 [(0, .ref 100), (1, .int x1), (2, .int x2), (3, .int x3), (4, .int x4), (5, .int x5)] [.int (f_X12_laysAhead x1 x2 S)] (g_X12_laysAhead x1 x2 S) R _
        refine u_if_ne rfl (fun h2 => ?_) (fun h2 => ?_)
        · have hD := hD.1 h2
          show u_P L xs m d m_X12_escaped 157 [(0, .ref 100), (1, .int x1), (2, .int x2), (3, .int x3), (4, .int x4), (5, .int x5)] [] (g_X12_laysAhead x1 x2 S) R _
          refine u_st rfl (fun _ => rfl) ?_
          refine u_st rfl (fun _ => rfl) ?_
          refine u_st rfl (fun _ => rfl) ?_
          show u_P L xs m d m_X12_escaped 160 [(0, .ref 100), (1, .int x1), (2, .int x2), (3, .int x3), (4, .int x4), (5, .int x5)] [.int x2, .int x1, .ref 100] (g_X12_laysAhead x1 x2 S) R _
          refine u_cv (rest := []) rfl (by decide) mt_X12_laysBehind v_tyM rfl rfl rfl (Nat.le_of_ble_eq_true rfl) (Nat.le_of_ble_eq_true rfl) (Nat.le_of_ble_eq_true rfl) (fun d' => c_X12_laysBehind L xs m d' x1 x2 (g_X12_laysAhead x1 x2 S) R) ?_
          rintro _ _ _ ⟨rfl, rfl, rfl⟩
          refine u_st rfl (fun _ => rfl) ?_
          refine u_st rfl (fun _ => rfl) ?_
          refine u_st rfl (fun _ => rfl) ?_
          refine u_st rfl (fun _ => rfl) ?_
          refine u_st rfl (fun _ => rfl) ?_
          refine u_st rfl (fun _ => rfl) ?_
          refine u_lc (b := [(0, .ref 100), (1, .int x1), (2, .int x2), (3, .int x3), (4, .int x4), (5, .int (Int32.ofInt 0)), (6, .int (Int32.ofInt 250)), (7, .int (Int32.ofInt 0))]) (show ([7, 6, 5, 0, 1, 2, 3, 4] : List Nat).Nodup by decide) (show ([0, 1, 2, 3, 4, 5, 6, 7] : List Nat).Nodup by decide) (fun i => match i with | 0 => rfl | 1 => rfl | 2 => rfl | 3 => rfl | 4 => rfl | 5 => rfl | 6 => rfl | 7 => rfl | _ + 8 => rfl) ?_
          exact (ih m hm).2.1 d x1 x2 x3 x4 (Int32.ofInt 0) (Int32.ofInt 250) (Int32.ofInt 0) (g_X12_laysBehind x1 x2 (g_X12_laysAhead x1 x2 S)) hD
        · have hD := hD.2 h2
          show u_P L xs m d m_X12_escaped 154 [(0, .ref 100), (1, .int x1), (2, .int x2), (3, .int x3), (4, .int x4), (5, .int x5)] [] (g_X12_laysAhead x1 x2 S) R _
          refine u_st rfl (fun _ => rfl) ?_
          show u_P L xs m d m_X12_escaped 156 [(0, .ref 100), (1, .int x1), (2, .int x2), (3, .int x3), (4, .int x4), (5, .int x5)] [.int (Int32.ofInt (-2))] (g_X12_laysAhead x1 x2 S) R _
          exact u_ret rfl rfl ⟨_, rfl, rfl, hD⟩
      · have hD := hD.2 h1
        show u_P L xs m d m_X12_escaped 75 [(0, .ref 100), (1, .int x1), (2, .int x2), (3, .int x3), (4, .int x4), (5, .int x5)] [] S R _
        refine u_st rfl (fun _ => rfl) ?_
        refine u_st rfl (fun _ => rfl) ?_
        refine u_st rfl (fun _ => rfl) ?_
        refine u_st rfl (fun _ => rfl) ?_
        refine u_st rfl (fun _ => rfl) ?_
        refine u_st rfl (fun _ => rfl) ?_
        show u_P L xs m d m_X12_escaped 82 [(0, .ref 100), (1, .int x1), (2, .int x2), (3, .int x3), (4, .int x4), (5, .int x5)] [.int (((Int32.ofInt 3) * x5) + (Int32.ofInt 2)), .ref 100] S R _
        refine u_cv (rest := []) rfl (by decide) mt_X12_byteAt v_tyM rfl rfl rfl (Nat.le_of_ble_eq_true rfl) (Nat.le_of_ble_eq_true rfl) (Nat.le_of_ble_eq_true rfl) (fun d' => c_X12_byteAt L xs m d' (((Int32.ofInt 3) * x5) + (Int32.ofInt 2)) S R) ?_
        rintro _ _ _ ⟨_, rfl, rfl, rfl, rfl⟩
        refine u_st rfl (fun _ => rfl) ?_
        show u_P L xs m d m_X12_escaped 88 [(0, .ref 100), (1, .int x1), (2, .int x2), (3, .int x3), (4, .int x4), (5, .int x5)] [.int (Int32.ofInt 250), .int (f_X12_byteAt (((Int32.ofInt 3) * x5) + (Int32.ofInt 2)) S)] S R _
        refine u_ic_gt rfl (fun h3 => ?_) (fun h3 => ?_)
        · have hD := hD.1 h3
          show u_P L xs m d m_X12_escaped 136 [(0, .ref 100), (1, .int x1), (2, .int x2), (3, .int x3), (4, .int x4), (5, .int x5)] [] S R _
          refine u_st rfl (fun _ => rfl) ?_
          show u_P L xs m d m_X12_escaped 138 [(0, .ref 100), (1, .int x1), (2, .int x2), (3, .int x3), (4, .int x4), (5, .int x5)] [.int (Int32.ofInt (-3))] S R _
          exact u_ret rfl rfl ⟨_, rfl, rfl, hD⟩
        · have hD := hD.2 h3
          show u_P L xs m d m_X12_escaped 91 [(0, .ref 100), (1, .int x1), (2, .int x2), (3, .int x3), (4, .int x4), (5, .int x5)] [] S R _
          refine u_st rfl (fun _ => rfl) ?_
          refine u_st rfl (fun _ => rfl) ?_
          refine u_st rfl (fun _ => rfl) ?_
          refine u_st rfl (fun _ => rfl) ?_
          refine u_st rfl (fun _ => rfl) ?_
          refine u_st rfl (fun _ => rfl) ?_
          show u_P L xs m d m_X12_escaped 98 [(0, .ref 100), (1, .int x1), (2, .int x2), (3, .int x3), (4, .int x4), (5, .int x5)] [.int (((Int32.ofInt 3) * x5) + (Int32.ofInt 1)), .ref 100] S R _
          refine u_cv (rest := []) rfl (by decide) mt_X12_byteAt v_tyM rfl rfl rfl (Nat.le_of_ble_eq_true rfl) (Nat.le_of_ble_eq_true rfl) (Nat.le_of_ble_eq_true rfl) (fun d' => c_X12_byteAt L xs m d' (((Int32.ofInt 3) * x5) + (Int32.ofInt 1)) S R) ?_
          rintro _ _ _ ⟨_, rfl, rfl, rfl, rfl⟩
          refine u_st rfl (fun _ => rfl) ?_
          refine u_st rfl (fun _ => rfl) ?_
          refine u_st rfl (fun _ => rfl) ?_
          refine u_st rfl (fun _ => rfl) ?_
          refine u_st rfl (fun _ => rfl) ?_
          refine u_st rfl (fun _ => rfl) ?_
          show u_P L xs m d m_X12_escaped 108 [(0, .ref 100), (1, .int x1), (2, .int x2), (3, .int x3), (4, .int x4), (5, .int x5)] [.int (((Int32.ofInt 3) * x5) + (Int32.ofInt 2)), .ref 100, .int (f_X12_byteAt (((Int32.ofInt 3) * x5) + (Int32.ofInt 1)) S)] S R _
          refine u_cv (rest := [.int (f_X12_byteAt (((Int32.ofInt 3) * x5) + (Int32.ofInt 1)) S)]) rfl (by decide) mt_X12_byteAt v_tyM rfl rfl rfl (Nat.le_of_ble_eq_true rfl) (Nat.le_of_ble_eq_true rfl) (Nat.le_of_ble_eq_true rfl) (fun d' => c_X12_byteAt L xs m d' (((Int32.ofInt 3) * x5) + (Int32.ofInt 2)) S R) ?_
          rintro _ _ _ ⟨_, rfl, rfl, rfl, rfl⟩
          show u_P L xs m d m_X12_escaped 111 [(0, .ref 100), (1, .int x1), (2, .int x2), (3, .int x3), (4, .int x4), (5, .int x5)] [.int (f_X12_byteAt (((Int32.ofInt 3) * x5) + (Int32.ofInt 2)) S), .int (f_X12_byteAt (((Int32.ofInt 3) * x5) + (Int32.ofInt 1)) S)] S R _
          refine u_ic_gt rfl (fun h4 => ?_) (fun h4 => ?_)
          · have hD := hD.1 h4
            show u_P L xs m d m_X12_escaped 136 [(0, .ref 100), (1, .int x1), (2, .int x2), (3, .int x3), (4, .int x4), (5, .int x5)] [] S R _
            refine u_st rfl (fun _ => rfl) ?_
            show u_P L xs m d m_X12_escaped 138 [(0, .ref 100), (1, .int x1), (2, .int x2), (3, .int x3), (4, .int x4), (5, .int x5)] [.int (Int32.ofInt (-3))] S R _
            exact u_ret rfl rfl ⟨_, rfl, rfl, hD⟩
          · have hD := hD.2 h4
            show u_P L xs m d m_X12_escaped 114 [(0, .ref 100), (1, .int x1), (2, .int x2), (3, .int x3), (4, .int x4), (5, .int x5)] [] S R _
            refine u_st rfl (fun _ => rfl) ?_
            show u_P L xs m d m_X12_escaped 116 [(0, .ref 100), (1, .int x1), (2, .int x2), (3, .int x3), (4, .int x4), (5, .int x5)] [.int x5] S R _
            refine u_if_le rfl (fun h5 => ?_) (fun h5 => ?_)
            · have hD := hD.1 h5
              show u_P L xs m d m_X12_escaped 139 [(0, .ref 100), (1, .int x1), (2, .int x2), (3, .int x3), (4, .int x4), (5, .int x5)] [] S R _
              refine u_st rfl (fun _ => rfl) ?_
              refine u_st rfl (fun _ => rfl) ?_
              refine u_lc (b := [(0, .ref 100), (1, .int x1), (2, .int x2), (3, .int x3), (4, .int x4), (5, .int (x5 + (Int32.ofInt 1)))]) (show ([5, 0, 1, 2, 3, 4] : List Nat).Nodup by decide) (show ([0, 1, 2, 3, 4, 5] : List Nat).Nodup by decide) (fun i => match i with | 0 => rfl | 1 => rfl | 2 => rfl | 3 => rfl | 4 => rfl | 5 => rfl | _ + 6 => rfl) ?_
              exact (ih m hm).1 d x1 x2 x3 x4 (x5 + (Int32.ofInt 1)) S hD
            · have hD := hD.2 h5
              show u_P L xs m d m_X12_escaped 119 [(0, .ref 100), (1, .int x1), (2, .int x2), (3, .int x3), (4, .int x4), (5, .int x5)] [] S R _
              refine u_st rfl (fun _ => rfl) ?_
              refine u_st rfl (fun _ => rfl) ?_
              show u_P L xs m d m_X12_escaped 122 [(0, .ref 100), (1, .int x1), (2, .int x2), (3, .int x3), (4, .int x4), (5, .int x5)] [.int x5, .ref 100] S R _
              refine u_cv (rest := []) rfl (by decide) mt_X12_hourOf v_tyM rfl rfl rfl (Nat.le_of_ble_eq_true rfl) (Nat.le_of_ble_eq_true rfl) (Nat.le_of_ble_eq_true rfl) (fun d' => c_X12_hourOf L xs m d' x5 S R) ?_
              rintro _ _ _ ⟨_, rfl, rfl, rfl, rfl⟩
              refine u_st rfl (fun _ => rfl) ?_
              refine u_st rfl (fun _ => rfl) ?_
              refine u_st rfl (fun _ => rfl) ?_
              refine u_st rfl (fun _ => rfl) ?_
              show u_P L xs m d m_X12_escaped 130 [(0, .ref 100), (1, .int x1), (2, .int x2), (3, .int x3), (4, .int x4), (5, .int x5)] [.int (x5 - (Int32.ofInt 1)), .ref 100, .int (f_X12_hourOf x5 S)] S R _
              refine u_cv (rest := [.int (f_X12_hourOf x5 S)]) rfl (by decide) mt_X12_hourOf v_tyM rfl rfl rfl (Nat.le_of_ble_eq_true rfl) (Nat.le_of_ble_eq_true rfl) (Nat.le_of_ble_eq_true rfl) (fun d' => c_X12_hourOf L xs m d' (x5 - (Int32.ofInt 1)) S R) ?_
              rintro _ _ _ ⟨_, rfl, rfl, rfl, rfl⟩
              show u_P L xs m d m_X12_escaped 133 [(0, .ref 100), (1, .int x1), (2, .int x2), (3, .int x3), (4, .int x4), (5, .int x5)] [.int (f_X12_hourOf (x5 - (Int32.ofInt 1)) S), .int (f_X12_hourOf x5 S)] S R _
              refine u_ic_gt rfl (fun h6 => ?_) (fun h6 => ?_)
              · have hD := hD.1 h6
                show u_P L xs m d m_X12_escaped 139 [(0, .ref 100), (1, .int x1), (2, .int x2), (3, .int x3), (4, .int x4), (5, .int x5)] [] S R _
                refine u_st rfl (fun _ => rfl) ?_
                refine u_st rfl (fun _ => rfl) ?_
                refine u_lc (b := [(0, .ref 100), (1, .int x1), (2, .int x2), (3, .int x3), (4, .int x4), (5, .int (x5 + (Int32.ofInt 1)))]) (show ([5, 0, 1, 2, 3, 4] : List Nat).Nodup by decide) (show ([0, 1, 2, 3, 4, 5] : List Nat).Nodup by decide) (fun i => match i with | 0 => rfl | 1 => rfl | 2 => rfl | 3 => rfl | 4 => rfl | 5 => rfl | _ + 6 => rfl) ?_
                exact (ih m hm).1 d x1 x2 x3 x4 (x5 + (Int32.ofInt 1)) S hD
              · have hD := hD.2 h6
                show u_P L xs m d m_X12_escaped 136 [(0, .ref 100), (1, .int x1), (2, .int x2), (3, .int x3), (4, .int x4), (5, .int x5)] [] S R _
                refine u_st rfl (fun _ => rfl) ?_
                show u_P L xs m d m_X12_escaped 138 [(0, .ref 100), (1, .int x1), (2, .int x2), (3, .int x3), (4, .int x4), (5, .int x5)] [.int (Int32.ofInt (-3))] S R _
                exact u_ret rfl rfl ⟨_, rfl, rfl, hD⟩
    · intro d x1 x2 x3 x4 x5 x6 x7 S hD
      have hD := k174 x1 x2 x3 x4 x5 x6 x7 S hD
      unfold D_X12_escaped_174 at hD
      show u_P L xs n d m_X12_escaped 174 [(0, .ref 100), (1, .int x1), (2, .int x2), (3, .int x3), (4, .int x4), (5, .int x5), (6, .int x6), (7, .int x7)] [] S R _
      refine u_st1 rfl (fun _ => rfl) (fun m hm => ?_)
      refine u_st rfl (fun _ => rfl) ?_
      show u_P L xs m d m_X12_escaped 177 [(0, .ref 100), (1, .int x1), (2, .int x2), (3, .int x3), (4, .int x4), (5, .int x5), (6, .int x6), (7, .int x7)] [.int x1, .int x7] S R _
      refine u_ic_ge rfl (fun h1 => ?_) (fun h1 => ?_)
      · have hD := hD.1 h1
        show u_P L xs m d m_X12_escaped 344 [(0, .ref 100), (1, .int x1), (2, .int x2), (3, .int x3), (4, .int x4), (5, .int x5), (6, .int x6), (7, .int x7)] [] S R _
        refine u_st rfl (fun _ => rfl) ?_
        show u_P L xs m d m_X12_escaped 346 [(0, .ref 100), (1, .int x1), (2, .int x2), (3, .int x3), (4, .int x4), (5, .int x5), (6, .int x6), (7, .int x7)] [.int x4] S R _
        refine u_if_ne rfl (fun h2 => ?_) (fun h2 => ?_)
        · have hD := hD.1 h2
          show u_P L xs m d m_X12_escaped 354 [(0, .ref 100), (1, .int x1), (2, .int x2), (3, .int x3), (4, .int x4), (5, .int x5), (6, .int x6), (7, .int x7)] [] S R _
          refine u_st rfl (fun _ => rfl) ?_
          refine u_st rfl (fun _ => rfl) ?_
          show u_P L xs m d m_X12_escaped 357 [(0, .ref 100), (1, .int x1), (2, .int x2), (3, .int x3), (4, .int x4), (5, .int x5), (6, .int x6), (7, .int x7)] [.int (Int32.ofInt 1), .int x4] S R _
          refine u_ic_ne rfl (fun h3 => ?_) (fun h3 => ?_)
          · have hD := hD.1 h3
            show u_P L xs m d m_X12_escaped 365 [(0, .ref 100), (1, .int x1), (2, .int x2), (3, .int x3), (4, .int x4), (5, .int x5), (6, .int x6), (7, .int x7)] [] S R _
            refine u_st rfl (fun _ => rfl) ?_
            refine u_st rfl (fun _ => rfl) ?_
            refine u_st rfl (fun _ => rfl) ?_
            refine u_st rfl (fun _ => rfl) ?_
            refine u_st rfl (fun _ => rfl) ?_
            refine u_st rfl (fun _ => rfl) ?_
            show u_P L xs m d m_X12_escaped 375 [(0, .ref 100), (1, .int x1), (2, .int x2), (3, .int x3), (4, .int x4), (5, .int x5), (6, .int x6), (7, .int x7)] [.int x4, .int ((x6 - x5) + x4)] S R _
            refine u_idiv rfl (fun b4 => ?_)
            have hD := hD b4
            show u_P L xs m d m_X12_escaped 376 [(0, .ref 100), (1, .int x1), (2, .int x2), (3, .int x3), (4, .int x4), (5, .int x5), (6, .int x6), (7, .int x7)] [.int (((x6 - x5) + x4) / x4)] S R _
            exact u_ret rfl rfl ⟨_, rfl, rfl, hD⟩
          · have hD := hD.2 h3
            show u_P L xs m d m_X12_escaped 360 [(0, .ref 100), (1, .int x1), (2, .int x2), (3, .int x3), (4, .int x4), (5, .int x5), (6, .int x6), (7, .int x7)] [] S R _
            refine u_st rfl (fun _ => rfl) ?_
            refine u_st rfl (fun _ => rfl) ?_
            show u_P L xs m d m_X12_escaped 376 [(0, .ref 100), (1, .int x1), (2, .int x2), (3, .int x3), (4, .int x4), (5, .int x5), (6, .int x6), (7, .int x7)] [.int x6] S R _
            exact u_ret rfl rfl ⟨_, rfl, rfl, hD⟩
        · have hD := hD.2 h2
          show u_P L xs m d m_X12_escaped 349 [(0, .ref 100), (1, .int x1), (2, .int x2), (3, .int x3), (4, .int x4), (5, .int x5), (6, .int x6), (7, .int x7)] [] S R _
          refine u_st rfl (fun _ => rfl) ?_
          refine u_st rfl (fun _ => rfl) ?_
          show u_P L xs m d m_X12_escaped 376 [(0, .ref 100), (1, .int x1), (2, .int x2), (3, .int x3), (4, .int x4), (5, .int x5), (6, .int x6), (7, .int x7)] [.int x5] S R _
          exact u_ret rfl rfl ⟨_, rfl, rfl, hD⟩
      · have hD := hD.2 h1
        show u_P L xs m d m_X12_escaped 180 [(0, .ref 100), (1, .int x1), (2, .int x2), (3, .int x3), (4, .int x4), (5, .int x5), (6, .int x6), (7, .int x7)] [] S R _
        refine u_st rfl (fun _ => rfl) ?_
        refine u_st rfl (fun _ => rfl) ?_
        refine u_st rfl (fun _ => rfl) ?_
        refine u_st rfl (fun _ => rfl) ?_
        show u_P L xs m d m_X12_escaped 185 [(0, .ref 100), (1, .int x1), (2, .int x2), (3, .int x3), (4, .int x4), (5, .int x5), (6, .int x6), (7, .int x7)] [.int x7, .ref 100, .int x3, .int x2] S R _
        refine u_cv (rest := [.int x3, .int x2]) rfl (by decide) mt_X12_hourOf v_tyM rfl rfl rfl (Nat.le_of_ble_eq_true rfl) (Nat.le_of_ble_eq_true rfl) (Nat.le_of_ble_eq_true rfl) (fun d' => c_X12_hourOf L xs m d' x7 S R) ?_
        rintro _ _ _ ⟨_, rfl, rfl, rfl, rfl⟩
        show u_P L xs m d m_X12_escaped 188 [(0, .ref 100), (1, .int x1), (2, .int x2), (3, .int x3), (4, .int x4), (5, .int x5), (6, .int x6), (7, .int x7)] [.int (f_X12_hourOf x7 S), .int x3, .int x2] S R _
        refine u_ic_le rfl (fun h5 => ?_) (fun h5 => ?_)
        · have hD := hD.1 h5
          show u_P L xs m d m_X12_escaped 202 [(0, .ref 100), (1, .int x1), (2, .int x2), (3, .int x3), (4, .int x4), (5, .int x5), (6, .int x6), (7, .int x7)] [.int x2] S R _
          refine u_st rfl (fun _ => rfl) ?_
          refine u_st rfl (fun _ => rfl) ?_
          show u_P L xs m d m_X12_escaped 205 [(0, .ref 100), (1, .int x1), (2, .int x2), (3, .int x3), (4, .int x4), (5, .int x5), (6, .int x6), (7, .int x7)] [.int x7, .ref 100, .int x2] S R _
          refine u_cv (rest := [.int x2]) rfl (by decide) mt_X12_hourOf v_tyM rfl rfl rfl (Nat.le_of_ble_eq_true rfl) (Nat.le_of_ble_eq_true rfl) (Nat.le_of_ble_eq_true rfl) (fun d' => c_X12_hourOf L xs m d' x7 S R) ?_
          rintro _ _ _ ⟨_, rfl, rfl, rfl, rfl⟩
          refine u_st rfl (fun _ => rfl) ?_
          refine u_st rfl (fun _ => rfl) ?_
          refine u_st rfl (fun _ => rfl) ?_
          refine u_st rfl (fun _ => rfl) ?_
          refine u_st rfl (fun _ => rfl) ?_
          refine u_st rfl (fun _ => rfl) ?_
          show u_P L xs m d m_X12_escaped 216 [(8, .int (x2 * ((f_X12_hourOf x7 S) - x3))), (0, .ref 100), (1, .int x1), (2, .int x2), (3, .int x3), (4, .int x4), (5, .int x5), (6, .int x6), (7, .int x7)] [.int x7, .ref 100] S R _
          refine u_cv (rest := []) rfl (by decide) mt_X12_hourOf v_tyM rfl rfl rfl (Nat.le_of_ble_eq_true rfl) (Nat.le_of_ble_eq_true rfl) (Nat.le_of_ble_eq_true rfl) (fun d' => c_X12_hourOf L xs m d' x7 S R) ?_
          rintro _ _ _ ⟨_, rfl, rfl, rfl, rfl⟩
          refine u_st rfl (fun _ => rfl) ?_
          show u_P L xs m d m_X12_escaped 220 [(8, .int (x2 * ((f_X12_hourOf x7 S) - x3))), (0, .ref 100), (1, .int x1), (2, .int x2), (3, .int x3), (4, .int x4), (5, .int x5), (6, .int x6), (7, .int x7)] [.int x3, .int (f_X12_hourOf x7 S)] S R _
          refine u_ic_gt rfl (fun h6 => ?_) (fun h6 => ?_)
          · have hD := hD.1 h6
            show u_P L xs m d m_X12_escaped 277 [(8, .int (x2 * ((f_X12_hourOf x7 S) - x3))), (0, .ref 100), (1, .int x1), (2, .int x2), (3, .int x3), (4, .int x4), (5, .int x5), (6, .int x6), (7, .int x7)] [] S R _
            refine u_st rfl (fun _ => rfl) ?_
            refine u_st rfl (fun _ => rfl) ?_
            show u_P L xs m d m_X12_escaped 280 [(8, .int (x2 * ((f_X12_hourOf x7 S) - x3))), (0, .ref 100), (1, .int x1), (2, .int x2), (3, .int x3), (4, .int x4), (5, .int x5), (6, .int x6), (7, .int x7)] [.int x7, .ref 100] S R _
            refine u_cv (rest := []) rfl (by decide) mt_X12_hourOf v_tyM rfl rfl rfl (Nat.le_of_ble_eq_true rfl) (Nat.le_of_ble_eq_true rfl) (Nat.le_of_ble_eq_true rfl) (fun d' => c_X12_hourOf L xs m d' x7 S R) ?_
            rintro _ _ _ ⟨_, rfl, rfl, rfl, rfl⟩
            refine u_st rfl (fun _ => rfl) ?_
            show u_P L xs m d m_X12_escaped 284 [(8, .int (x2 * ((f_X12_hourOf x7 S) - x3))), (0, .ref 100), (1, .int x1), (2, .int x2), (3, .int x3), (4, .int x4), (5, .int x5), (6, .int x6), (7, .int x7)] [.int x3, .int (f_X12_hourOf x7 S)] S R _
            refine u_ic_le rfl (fun h7 => ?_) (fun h7 => ?_)
            · have hD := hD.1 h7
              show u_P L xs m d m_X12_escaped 338 [(8, .int (x2 * ((f_X12_hourOf x7 S) - x3))), (0, .ref 100), (1, .int x1), (2, .int x2), (3, .int x3), (4, .int x4), (5, .int x5), (6, .int x6), (7, .int x7)] [] S R _
              refine u_st rfl (fun _ => rfl) ?_
              refine u_st rfl (fun _ => rfl) ?_
              refine u_lc (b := [(0, .ref 100), (1, .int x1), (2, .int x2), (3, .int x3), (4, .int x4), (5, .int x5), (6, .int x6), (7, .int (x7 + (Int32.ofInt 1))), (8, .int (x2 * ((f_X12_hourOf x7 S) - x3)))]) (show ([7, 8, 0, 1, 2, 3, 4, 5, 6] : List Nat).Nodup by decide) (show ([0, 1, 2, 3, 4, 5, 6, 7, 8] : List Nat).Nodup by decide) (fun i => match i with | 0 => rfl | 1 => rfl | 2 => rfl | 3 => rfl | 4 => rfl | 5 => rfl | 6 => rfl | 7 => rfl | 8 => rfl | _ + 9 => rfl) ?_
              exact (ih m hm).2.2 d (x2 * ((f_X12_hourOf x7 S) - x3)) x1 x2 x3 x4 x5 x6 (x7 + (Int32.ofInt 1)) S hD
            · have hD := hD.2 h7
              show u_P L xs m d m_X12_escaped 287 [(8, .int (x2 * ((f_X12_hourOf x7 S) - x3))), (0, .ref 100), (1, .int x1), (2, .int x2), (3, .int x3), (4, .int x4), (5, .int x5), (6, .int x6), (7, .int x7)] [] S R _
              refine u_st rfl (fun _ => rfl) ?_
              show u_P L xs m d m_X12_escaped 289 [(8, .int (x2 * ((f_X12_hourOf x7 S) - x3))), (0, .ref 100), (1, .int x1), (2, .int x2), (3, .int x3), (4, .int x4), (5, .int x5), (6, .int x6), (7, .int x7)] [.int x7] S R _
              refine u_if_eq rfl (fun h8 => ?_) (fun h8 => ?_)
              · have hD := hD.1 h8
                show u_P L xs m d m_X12_escaped 304 [(8, .int (x2 * ((f_X12_hourOf x7 S) - x3))), (0, .ref 100), (1, .int x1), (2, .int x2), (3, .int x3), (4, .int x4), (5, .int x5), (6, .int x6), (7, .int x7)] [] S R _
                refine u_st rfl (fun _ => rfl) ?_
                refine u_st rfl (fun _ => rfl) ?_
                show u_P L xs m d m_X12_escaped 307 [(8, .int (x2 * ((f_X12_hourOf x7 S) - x3))), (0, .ref 100), (1, .int x1), (2, .int x2), (3, .int x3), (4, .int x4), (5, .int x5), (6, .int x6), (7, .int x7)] [.ref 100, .int x5] S R _
                refine u_getr rfl v_tyM rfl ?_
                refine u_st rfl (fun _ => rfl) ?_
                show u_P L xs m d m_X12_escaped 312 [(8, .int (x2 * ((f_X12_hourOf x7 S) - x3))), (0, .ref 100), (1, .int x1), (2, .int x2), (3, .int x3), (4, .int x4), (5, .int x5), (6, .int x6), (7, .int x7)] [.int x7, .ref 170, .int x5] S R _
                refine u_ialdE (v := S 169 x7.toInt.toNat) rfl rfl rfl (fun b91 b92 => ?_)
                have hD := hD b91 b92
                show u_P L xs m d m_X12_escaped 313 [(8, .int (x2 * ((f_X12_hourOf x7 S) - x3))), (0, .ref 100), (1, .int x1), (2, .int x2), (3, .int x3), (4, .int x4), (5, .int x5), (6, .int x6), (7, .int x7)] [.int (S 169 x7.toInt.toNat), .int x5] S R _
                refine u_st rfl (fun _ => rfl) ?_
                refine u_st rfl (fun _ => rfl) ?_
                show u_P L xs m d m_X12_escaped 316 [(8, .int (x2 * ((f_X12_hourOf x7 S) - x3))), (0, .ref 100), (1, .int x1), (2, .int x2), (3, .int x3), (4, .int x4), (5, .int x5), (6, .int x6), (7, .int x7)] [.int ((S 169 x7.toInt.toNat) - (x2 * ((f_X12_hourOf x7 S) - x3))), .int x5] S R _
                refine u_cs (ac := [.int x5, .int ((S 169 x7.toInt.toNat) - (x2 * ((f_X12_hourOf x7 S) - x3)))]) (rest := []) rfl (by decide) mt_X12_higher (fun _ => rfl) (Nat.le_of_ble_eq_true rfl) (Nat.le_of_ble_eq_true rfl) (fun d' => c_X12_higher L xs m d' x5 ((S 169 x7.toInt.toNat) - (x2 * ((f_X12_hourOf x7 S) - x3))) S R) ?_
                rintro _ _ _ ⟨_, rfl, rfl, rfl, rfl⟩
                refine u_st rfl (fun _ => rfl) ?_
                refine u_st rfl (fun _ => rfl) ?_
                refine u_st rfl (fun _ => rfl) ?_
                show u_P L xs m d m_X12_escaped 324 [(5, .int (f_X12_higher x5 ((S 169 x7.toInt.toNat) - (x2 * ((f_X12_hourOf x7 S) - x3))))), (8, .int (x2 * ((f_X12_hourOf x7 S) - x3))), (0, .ref 100), (1, .int x1), (2, .int x2), (3, .int x3), (4, .int x4), (6, .int x6), (7, .int x7)] [.ref 100, .int x6] S R _
                refine u_getr rfl v_tyM rfl ?_
                refine u_st rfl (fun _ => rfl) ?_
                show u_P L xs m d m_X12_escaped 329 [(5, .int (f_X12_higher x5 ((S 169 x7.toInt.toNat) - (x2 * ((f_X12_hourOf x7 S) - x3))))), (8, .int (x2 * ((f_X12_hourOf x7 S) - x3))), (0, .ref 100), (1, .int x1), (2, .int x2), (3, .int x3), (4, .int x4), (6, .int x6), (7, .int x7)] [.int x7, .ref 171, .int x6] S R _
                refine u_ialdE (v := S 170 x7.toInt.toNat) rfl rfl rfl (fun b101 b102 => ?_)
                have hD := hD b101 b102
                show u_P L xs m d m_X12_escaped 330 [(5, .int (f_X12_higher x5 ((S 169 x7.toInt.toNat) - (x2 * ((f_X12_hourOf x7 S) - x3))))), (8, .int (x2 * ((f_X12_hourOf x7 S) - x3))), (0, .ref 100), (1, .int x1), (2, .int x2), (3, .int x3), (4, .int x4), (6, .int x6), (7, .int x7)] [.int (S 170 x7.toInt.toNat), .int x6] S R _
                refine u_st rfl (fun _ => rfl) ?_
                refine u_st rfl (fun _ => rfl) ?_
                show u_P L xs m d m_X12_escaped 333 [(5, .int (f_X12_higher x5 ((S 169 x7.toInt.toNat) - (x2 * ((f_X12_hourOf x7 S) - x3))))), (8, .int (x2 * ((f_X12_hourOf x7 S) - x3))), (0, .ref 100), (1, .int x1), (2, .int x2), (3, .int x3), (4, .int x4), (6, .int x6), (7, .int x7)] [.int ((S 170 x7.toInt.toNat) + (x2 * ((f_X12_hourOf x7 S) - x3))), .int x6] S R _
                refine u_cs (ac := [.int x6, .int ((S 170 x7.toInt.toNat) + (x2 * ((f_X12_hourOf x7 S) - x3)))]) (rest := []) rfl (by decide) mt_X12_lower (fun _ => rfl) (Nat.le_of_ble_eq_true rfl) (Nat.le_of_ble_eq_true rfl) (fun d' => c_X12_lower L xs m d' x6 ((S 170 x7.toInt.toNat) + (x2 * ((f_X12_hourOf x7 S) - x3))) S R) ?_
                rintro _ _ _ ⟨_, rfl, rfl, rfl, rfl⟩
                refine u_st rfl (fun _ => rfl) ?_
                refine u_st rfl (fun _ => rfl) ?_
                refine u_st rfl (fun _ => rfl) ?_
                refine u_lc (b := [(0, .ref 100), (1, .int x1), (2, .int x2), (3, .int x3), (4, .int x4), (5, .int (f_X12_higher x5 ((S 169 x7.toInt.toNat) - (x2 * ((f_X12_hourOf x7 S) - x3))))), (6, .int (f_X12_lower x6 ((S 170 x7.toInt.toNat) + (x2 * ((f_X12_hourOf x7 S) - x3))))), (7, .int (x7 + (Int32.ofInt 1))), (8, .int (x2 * ((f_X12_hourOf x7 S) - x3)))]) (show ([7, 6, 5, 8, 0, 1, 2, 3, 4] : List Nat).Nodup by decide) (show ([0, 1, 2, 3, 4, 5, 6, 7, 8] : List Nat).Nodup by decide) (fun i => match i with | 0 => rfl | 1 => rfl | 2 => rfl | 3 => rfl | 4 => rfl | 5 => rfl | 6 => rfl | 7 => rfl | 8 => rfl | _ + 9 => rfl) ?_
                exact (ih m hm).2.2 d (x2 * ((f_X12_hourOf x7 S) - x3)) x1 x2 x3 x4 (f_X12_higher x5 ((S 169 x7.toInt.toNat) - (x2 * ((f_X12_hourOf x7 S) - x3)))) (f_X12_lower x6 ((S 170 x7.toInt.toNat) + (x2 * ((f_X12_hourOf x7 S) - x3)))) (x7 + (Int32.ofInt 1)) S hD
              · have hD := hD.2 h8
                show u_P L xs m d m_X12_escaped 292 [(8, .int (x2 * ((f_X12_hourOf x7 S) - x3))), (0, .ref 100), (1, .int x1), (2, .int x2), (3, .int x3), (4, .int x4), (5, .int x5), (6, .int x6), (7, .int x7)] [] S R _
                refine u_st rfl (fun _ => rfl) ?_
                refine u_st rfl (fun _ => rfl) ?_
                refine u_st rfl (fun _ => rfl) ?_
                refine u_st rfl (fun _ => rfl) ?_
                show u_P L xs m d m_X12_escaped 297 [(8, .int (x2 * ((f_X12_hourOf x7 S) - x3))), (0, .ref 100), (1, .int x1), (2, .int x2), (3, .int x3), (4, .int x4), (5, .int x5), (6, .int x6), (7, .int x7)] [.int (x7 - (Int32.ofInt 1)), .ref 100] S R _
                refine u_cv (rest := []) rfl (by decide) mt_X12_hourOf v_tyM rfl rfl rfl (Nat.le_of_ble_eq_true rfl) (Nat.le_of_ble_eq_true rfl) (Nat.le_of_ble_eq_true rfl) (fun d' => c_X12_hourOf L xs m d' (x7 - (Int32.ofInt 1)) S R) ?_
                rintro _ _ _ ⟨_, rfl, rfl, rfl, rfl⟩
                refine u_st rfl (fun _ => rfl) ?_
                show u_P L xs m d m_X12_escaped 301 [(8, .int (x2 * ((f_X12_hourOf x7 S) - x3))), (0, .ref 100), (1, .int x1), (2, .int x2), (3, .int x3), (4, .int x4), (5, .int x5), (6, .int x6), (7, .int x7)] [.int x3, .int (f_X12_hourOf (x7 - (Int32.ofInt 1)) S)] S R _
                refine u_ic_gt rfl (fun h11 => ?_) (fun h11 => ?_)
                · have hD := hD.1 h11
                  show u_P L xs m d m_X12_escaped 338 [(8, .int (x2 * ((f_X12_hourOf x7 S) - x3))), (0, .ref 100), (1, .int x1), (2, .int x2), (3, .int x3), (4, .int x4), (5, .int x5), (6, .int x6), (7, .int x7)] [] S R _
                  refine u_st rfl (fun _ => rfl) ?_
                  refine u_st rfl (fun _ => rfl) ?_
                  refine u_lc (b := [(0, .ref 100), (1, .int x1), (2, .int x2), (3, .int x3), (4, .int x4), (5, .int x5), (6, .int x6), (7, .int (x7 + (Int32.ofInt 1))), (8, .int (x2 * ((f_X12_hourOf x7 S) - x3)))]) (show ([7, 8, 0, 1, 2, 3, 4, 5, 6] : List Nat).Nodup by decide) (show ([0, 1, 2, 3, 4, 5, 6, 7, 8] : List Nat).Nodup by decide) (fun i => match i with | 0 => rfl | 1 => rfl | 2 => rfl | 3 => rfl | 4 => rfl | 5 => rfl | 6 => rfl | 7 => rfl | 8 => rfl | _ + 9 => rfl) ?_
                  exact (ih m hm).2.2 d (x2 * ((f_X12_hourOf x7 S) - x3)) x1 x2 x3 x4 x5 x6 (x7 + (Int32.ofInt 1)) S hD
                · have hD := hD.2 h11
                  show u_P L xs m d m_X12_escaped 304 [(8, .int (x2 * ((f_X12_hourOf x7 S) - x3))), (0, .ref 100), (1, .int x1), (2, .int x2), (3, .int x3), (4, .int x4), (5, .int x5), (6, .int x6), (7, .int x7)] [] S R _
                  refine u_st rfl (fun _ => rfl) ?_
                  refine u_st rfl (fun _ => rfl) ?_
                  show u_P L xs m d m_X12_escaped 307 [(8, .int (x2 * ((f_X12_hourOf x7 S) - x3))), (0, .ref 100), (1, .int x1), (2, .int x2), (3, .int x3), (4, .int x4), (5, .int x5), (6, .int x6), (7, .int x7)] [.ref 100, .int x5] S R _
                  refine u_getr rfl v_tyM rfl ?_
                  refine u_st rfl (fun _ => rfl) ?_
                  show u_P L xs m d m_X12_escaped 312 [(8, .int (x2 * ((f_X12_hourOf x7 S) - x3))), (0, .ref 100), (1, .int x1), (2, .int x2), (3, .int x3), (4, .int x4), (5, .int x5), (6, .int x6), (7, .int x7)] [.int x7, .ref 170, .int x5] S R _
                  refine u_ialdE (v := S 169 x7.toInt.toNat) rfl rfl rfl (fun b121 b122 => ?_)
                  have hD := hD b121 b122
                  show u_P L xs m d m_X12_escaped 313 [(8, .int (x2 * ((f_X12_hourOf x7 S) - x3))), (0, .ref 100), (1, .int x1), (2, .int x2), (3, .int x3), (4, .int x4), (5, .int x5), (6, .int x6), (7, .int x7)] [.int (S 169 x7.toInt.toNat), .int x5] S R _
                  refine u_st rfl (fun _ => rfl) ?_
                  refine u_st rfl (fun _ => rfl) ?_
                  show u_P L xs m d m_X12_escaped 316 [(8, .int (x2 * ((f_X12_hourOf x7 S) - x3))), (0, .ref 100), (1, .int x1), (2, .int x2), (3, .int x3), (4, .int x4), (5, .int x5), (6, .int x6), (7, .int x7)] [.int ((S 169 x7.toInt.toNat) - (x2 * ((f_X12_hourOf x7 S) - x3))), .int x5] S R _
                  refine u_cs (ac := [.int x5, .int ((S 169 x7.toInt.toNat) - (x2 * ((f_X12_hourOf x7 S) - x3)))]) (rest := []) rfl (by decide) mt_X12_higher (fun _ => rfl) (Nat.le_of_ble_eq_true rfl) (Nat.le_of_ble_eq_true rfl) (fun d' => c_X12_higher L xs m d' x5 ((S 169 x7.toInt.toNat) - (x2 * ((f_X12_hourOf x7 S) - x3))) S R) ?_
                  rintro _ _ _ ⟨_, rfl, rfl, rfl, rfl⟩
                  refine u_st rfl (fun _ => rfl) ?_
                  refine u_st rfl (fun _ => rfl) ?_
                  refine u_st rfl (fun _ => rfl) ?_
                  show u_P L xs m d m_X12_escaped 324 [(5, .int (f_X12_higher x5 ((S 169 x7.toInt.toNat) - (x2 * ((f_X12_hourOf x7 S) - x3))))), (8, .int (x2 * ((f_X12_hourOf x7 S) - x3))), (0, .ref 100), (1, .int x1), (2, .int x2), (3, .int x3), (4, .int x4), (6, .int x6), (7, .int x7)] [.ref 100, .int x6] S R _
                  refine u_getr rfl v_tyM rfl ?_
                  refine u_st rfl (fun _ => rfl) ?_
                  show u_P L xs m d m_X12_escaped 329 [(5, .int (f_X12_higher x5 ((S 169 x7.toInt.toNat) - (x2 * ((f_X12_hourOf x7 S) - x3))))), (8, .int (x2 * ((f_X12_hourOf x7 S) - x3))), (0, .ref 100), (1, .int x1), (2, .int x2), (3, .int x3), (4, .int x4), (6, .int x6), (7, .int x7)] [.int x7, .ref 171, .int x6] S R _
                  refine u_ialdE (v := S 170 x7.toInt.toNat) rfl rfl rfl (fun b131 b132 => ?_)
                  have hD := hD b131 b132
                  show u_P L xs m d m_X12_escaped 330 [(5, .int (f_X12_higher x5 ((S 169 x7.toInt.toNat) - (x2 * ((f_X12_hourOf x7 S) - x3))))), (8, .int (x2 * ((f_X12_hourOf x7 S) - x3))), (0, .ref 100), (1, .int x1), (2, .int x2), (3, .int x3), (4, .int x4), (6, .int x6), (7, .int x7)] [.int (S 170 x7.toInt.toNat), .int x6] S R _
                  refine u_st rfl (fun _ => rfl) ?_
                  refine u_st rfl (fun _ => rfl) ?_
                  show u_P L xs m d m_X12_escaped 333 [(5, .int (f_X12_higher x5 ((S 169 x7.toInt.toNat) - (x2 * ((f_X12_hourOf x7 S) - x3))))), (8, .int (x2 * ((f_X12_hourOf x7 S) - x3))), (0, .ref 100), (1, .int x1), (2, .int x2), (3, .int x3), (4, .int x4), (6, .int x6), (7, .int x7)] [.int ((S 170 x7.toInt.toNat) + (x2 * ((f_X12_hourOf x7 S) - x3))), .int x6] S R _
                  refine u_cs (ac := [.int x6, .int ((S 170 x7.toInt.toNat) + (x2 * ((f_X12_hourOf x7 S) - x3)))]) (rest := []) rfl (by decide) mt_X12_lower (fun _ => rfl) (Nat.le_of_ble_eq_true rfl) (Nat.le_of_ble_eq_true rfl) (fun d' => c_X12_lower L xs m d' x6 ((S 170 x7.toInt.toNat) + (x2 * ((f_X12_hourOf x7 S) - x3))) S R) ?_
                  rintro _ _ _ ⟨_, rfl, rfl, rfl, rfl⟩
                  refine u_st rfl (fun _ => rfl) ?_
                  refine u_st rfl (fun _ => rfl) ?_
                  refine u_st rfl (fun _ => rfl) ?_
                  refine u_lc (b := [(0, .ref 100), (1, .int x1), (2, .int x2), (3, .int x3), (4, .int x4), (5, .int (f_X12_higher x5 ((S 169 x7.toInt.toNat) - (x2 * ((f_X12_hourOf x7 S) - x3))))), (6, .int (f_X12_lower x6 ((S 170 x7.toInt.toNat) + (x2 * ((f_X12_hourOf x7 S) - x3))))), (7, .int (x7 + (Int32.ofInt 1))), (8, .int (x2 * ((f_X12_hourOf x7 S) - x3)))]) (show ([7, 6, 5, 8, 0, 1, 2, 3, 4] : List Nat).Nodup by decide) (show ([0, 1, 2, 3, 4, 5, 6, 7, 8] : List Nat).Nodup by decide) (fun i => match i with | 0 => rfl | 1 => rfl | 2 => rfl | 3 => rfl | 4 => rfl | 5 => rfl | 6 => rfl | 7 => rfl | 8 => rfl | _ + 9 => rfl) ?_
                  exact (ih m hm).2.2 d (x2 * ((f_X12_hourOf x7 S) - x3)) x1 x2 x3 x4 (f_X12_higher x5 ((S 169 x7.toInt.toNat) - (x2 * ((f_X12_hourOf x7 S) - x3)))) (f_X12_lower x6 ((S 170 x7.toInt.toNat) + (x2 * ((f_X12_hourOf x7 S) - x3)))) (x7 + (Int32.ofInt 1)) S hD
          · have hD := hD.2 h6
            show u_P L xs m d m_X12_escaped 223 [(8, .int (x2 * ((f_X12_hourOf x7 S) - x3))), (0, .ref 100), (1, .int x1), (2, .int x2), (3, .int x3), (4, .int x4), (5, .int x5), (6, .int x6), (7, .int x7)] [] S R _
            refine u_st rfl (fun _ => rfl) ?_
            refine u_st rfl (fun _ => rfl) ?_
            refine u_st rfl (fun _ => rfl) ?_
            refine u_st rfl (fun _ => rfl) ?_
            show u_P L xs m d m_X12_escaped 228 [(8, .int (x2 * ((f_X12_hourOf x7 S) - x3))), (0, .ref 100), (1, .int x1), (2, .int x2), (3, .int x3), (4, .int x4), (5, .int x5), (6, .int x6), (7, .int x7)] [.int x1, .int (x7 + (Int32.ofInt 1))] S R _
            refine u_ic_eq rfl (fun h14 => ?_) (fun h14 => ?_)
            · have hD := hD.1 h14
              show u_P L xs m d m_X12_escaped 243 [(8, .int (x2 * ((f_X12_hourOf x7 S) - x3))), (0, .ref 100), (1, .int x1), (2, .int x2), (3, .int x3), (4, .int x4), (5, .int x5), (6, .int x6), (7, .int x7)] [] S R _
              refine u_st rfl (fun _ => rfl) ?_
              refine u_st rfl (fun _ => rfl) ?_
              show u_P L xs m d m_X12_escaped 246 [(8, .int (x2 * ((f_X12_hourOf x7 S) - x3))), (0, .ref 100), (1, .int x1), (2, .int x2), (3, .int x3), (4, .int x4), (5, .int x5), (6, .int x6), (7, .int x7)] [.ref 100, .int x5] S R _
              refine u_getr rfl v_tyM rfl ?_
              refine u_st rfl (fun _ => rfl) ?_
              show u_P L xs m d m_X12_escaped 251 [(8, .int (x2 * ((f_X12_hourOf x7 S) - x3))), (0, .ref 100), (1, .int x1), (2, .int x2), (3, .int x3), (4, .int x4), (5, .int x5), (6, .int x6), (7, .int x7)] [.int x7, .ref 168, .int x5] S R _
              refine u_ialdE (v := S 167 x7.toInt.toNat) rfl rfl rfl (fun b151 b152 => ?_)
              have hD := hD b151 b152
              show u_P L xs m d m_X12_escaped 252 [(8, .int (x2 * ((f_X12_hourOf x7 S) - x3))), (0, .ref 100), (1, .int x1), (2, .int x2), (3, .int x3), (4, .int x4), (5, .int x5), (6, .int x6), (7, .int x7)] [.int (S 167 x7.toInt.toNat), .int x5] S R _
              refine u_st rfl (fun _ => rfl) ?_
              refine u_st rfl (fun _ => rfl) ?_
              show u_P L xs m d m_X12_escaped 255 [(8, .int (x2 * ((f_X12_hourOf x7 S) - x3))), (0, .ref 100), (1, .int x1), (2, .int x2), (3, .int x3), (4, .int x4), (5, .int x5), (6, .int x6), (7, .int x7)] [.int ((S 167 x7.toInt.toNat) - (x2 * ((f_X12_hourOf x7 S) - x3))), .int x5] S R _
              refine u_cs (ac := [.int x5, .int ((S 167 x7.toInt.toNat) - (x2 * ((f_X12_hourOf x7 S) - x3)))]) (rest := []) rfl (by decide) mt_X12_higher (fun _ => rfl) (Nat.le_of_ble_eq_true rfl) (Nat.le_of_ble_eq_true rfl) (fun d' => c_X12_higher L xs m d' x5 ((S 167 x7.toInt.toNat) - (x2 * ((f_X12_hourOf x7 S) - x3))) S R) ?_
              rintro _ _ _ ⟨_, rfl, rfl, rfl, rfl⟩
              refine u_st rfl (fun _ => rfl) ?_
              refine u_st rfl (fun _ => rfl) ?_
              refine u_st rfl (fun _ => rfl) ?_
              show u_P L xs m d m_X12_escaped 263 [(5, .int (f_X12_higher x5 ((S 167 x7.toInt.toNat) - (x2 * ((f_X12_hourOf x7 S) - x3))))), (8, .int (x2 * ((f_X12_hourOf x7 S) - x3))), (0, .ref 100), (1, .int x1), (2, .int x2), (3, .int x3), (4, .int x4), (6, .int x6), (7, .int x7)] [.ref 100, .int x6] S R _
              refine u_getr rfl v_tyM rfl ?_
              refine u_st rfl (fun _ => rfl) ?_
              show u_P L xs m d m_X12_escaped 268 [(5, .int (f_X12_higher x5 ((S 167 x7.toInt.toNat) - (x2 * ((f_X12_hourOf x7 S) - x3))))), (8, .int (x2 * ((f_X12_hourOf x7 S) - x3))), (0, .ref 100), (1, .int x1), (2, .int x2), (3, .int x3), (4, .int x4), (6, .int x6), (7, .int x7)] [.int x7, .ref 169, .int x6] S R _
              refine u_ialdE (v := S 168 x7.toInt.toNat) rfl rfl rfl (fun b161 b162 => ?_)
              have hD := hD b161 b162
              show u_P L xs m d m_X12_escaped 269 [(5, .int (f_X12_higher x5 ((S 167 x7.toInt.toNat) - (x2 * ((f_X12_hourOf x7 S) - x3))))), (8, .int (x2 * ((f_X12_hourOf x7 S) - x3))), (0, .ref 100), (1, .int x1), (2, .int x2), (3, .int x3), (4, .int x4), (6, .int x6), (7, .int x7)] [.int (S 168 x7.toInt.toNat), .int x6] S R _
              refine u_st rfl (fun _ => rfl) ?_
              refine u_st rfl (fun _ => rfl) ?_
              show u_P L xs m d m_X12_escaped 272 [(5, .int (f_X12_higher x5 ((S 167 x7.toInt.toNat) - (x2 * ((f_X12_hourOf x7 S) - x3))))), (8, .int (x2 * ((f_X12_hourOf x7 S) - x3))), (0, .ref 100), (1, .int x1), (2, .int x2), (3, .int x3), (4, .int x4), (6, .int x6), (7, .int x7)] [.int ((S 168 x7.toInt.toNat) + (x2 * ((f_X12_hourOf x7 S) - x3))), .int x6] S R _
              refine u_cs (ac := [.int x6, .int ((S 168 x7.toInt.toNat) + (x2 * ((f_X12_hourOf x7 S) - x3)))]) (rest := []) rfl (by decide) mt_X12_lower (fun _ => rfl) (Nat.le_of_ble_eq_true rfl) (Nat.le_of_ble_eq_true rfl) (fun d' => c_X12_lower L xs m d' x6 ((S 168 x7.toInt.toNat) + (x2 * ((f_X12_hourOf x7 S) - x3))) S R) ?_
              rintro _ _ _ ⟨_, rfl, rfl, rfl, rfl⟩
              refine u_st rfl (fun _ => rfl) ?_
              refine u_st rfl (fun _ => rfl) ?_
              refine u_st rfl (fun _ => rfl) ?_
              show u_P L xs m d m_X12_escaped 280 [(6, .int (f_X12_lower x6 ((S 168 x7.toInt.toNat) + (x2 * ((f_X12_hourOf x7 S) - x3))))), (5, .int (f_X12_higher x5 ((S 167 x7.toInt.toNat) - (x2 * ((f_X12_hourOf x7 S) - x3))))), (8, .int (x2 * ((f_X12_hourOf x7 S) - x3))), (0, .ref 100), (1, .int x1), (2, .int x2), (3, .int x3), (4, .int x4), (7, .int x7)] [.int x7, .ref 100] S R _
              refine u_cv (rest := []) rfl (by decide) mt_X12_hourOf v_tyM rfl rfl rfl (Nat.le_of_ble_eq_true rfl) (Nat.le_of_ble_eq_true rfl) (Nat.le_of_ble_eq_true rfl) (fun d' => c_X12_hourOf L xs m d' x7 S R) ?_
              rintro _ _ _ ⟨_, rfl, rfl, rfl, rfl⟩
              refine u_st rfl (fun _ => rfl) ?_
              show u_P L xs m d m_X12_escaped 284 [(6, .int (f_X12_lower x6 ((S 168 x7.toInt.toNat) + (x2 * ((f_X12_hourOf x7 S) - x3))))), (5, .int (f_X12_higher x5 ((S 167 x7.toInt.toNat) - (x2 * ((f_X12_hourOf x7 S) - x3))))), (8, .int (x2 * ((f_X12_hourOf x7 S) - x3))), (0, .ref 100), (1, .int x1), (2, .int x2), (3, .int x3), (4, .int x4), (7, .int x7)] [.int x3, .int (f_X12_hourOf x7 S)] S R _
              refine u_ic_le rfl (fun h17 => ?_) (fun h17 => ?_)
              · have hD := hD.1 h17
                show u_P L xs m d m_X12_escaped 338 [(6, .int (f_X12_lower x6 ((S 168 x7.toInt.toNat) + (x2 * ((f_X12_hourOf x7 S) - x3))))), (5, .int (f_X12_higher x5 ((S 167 x7.toInt.toNat) - (x2 * ((f_X12_hourOf x7 S) - x3))))), (8, .int (x2 * ((f_X12_hourOf x7 S) - x3))), (0, .ref 100), (1, .int x1), (2, .int x2), (3, .int x3), (4, .int x4), (7, .int x7)] [] S R _
                refine u_st rfl (fun _ => rfl) ?_
                refine u_st rfl (fun _ => rfl) ?_
                refine u_lc (b := [(0, .ref 100), (1, .int x1), (2, .int x2), (3, .int x3), (4, .int x4), (5, .int (f_X12_higher x5 ((S 167 x7.toInt.toNat) - (x2 * ((f_X12_hourOf x7 S) - x3))))), (6, .int (f_X12_lower x6 ((S 168 x7.toInt.toNat) + (x2 * ((f_X12_hourOf x7 S) - x3))))), (7, .int (x7 + (Int32.ofInt 1))), (8, .int (x2 * ((f_X12_hourOf x7 S) - x3)))]) (show ([7, 6, 5, 8, 0, 1, 2, 3, 4] : List Nat).Nodup by decide) (show ([0, 1, 2, 3, 4, 5, 6, 7, 8] : List Nat).Nodup by decide) (fun i => match i with | 0 => rfl | 1 => rfl | 2 => rfl | 3 => rfl | 4 => rfl | 5 => rfl | 6 => rfl | 7 => rfl | 8 => rfl | _ + 9 => rfl) ?_
                exact (ih m hm).2.2 d (x2 * ((f_X12_hourOf x7 S) - x3)) x1 x2 x3 x4 (f_X12_higher x5 ((S 167 x7.toInt.toNat) - (x2 * ((f_X12_hourOf x7 S) - x3)))) (f_X12_lower x6 ((S 168 x7.toInt.toNat) + (x2 * ((f_X12_hourOf x7 S) - x3)))) (x7 + (Int32.ofInt 1)) S hD
              · have hD := hD.2 h17
                show u_P L xs m d m_X12_escaped 287 [(6, .int (f_X12_lower x6 ((S 168 x7.toInt.toNat) + (x2 * ((f_X12_hourOf x7 S) - x3))))), (5, .int (f_X12_higher x5 ((S 167 x7.toInt.toNat) - (x2 * ((f_X12_hourOf x7 S) - x3))))), (8, .int (x2 * ((f_X12_hourOf x7 S) - x3))), (0, .ref 100), (1, .int x1), (2, .int x2), (3, .int x3), (4, .int x4), (7, .int x7)] [] S R _
                refine u_st rfl (fun _ => rfl) ?_
                show u_P L xs m d m_X12_escaped 289 [(6, .int (f_X12_lower x6 ((S 168 x7.toInt.toNat) + (x2 * ((f_X12_hourOf x7 S) - x3))))), (5, .int (f_X12_higher x5 ((S 167 x7.toInt.toNat) - (x2 * ((f_X12_hourOf x7 S) - x3))))), (8, .int (x2 * ((f_X12_hourOf x7 S) - x3))), (0, .ref 100), (1, .int x1), (2, .int x2), (3, .int x3), (4, .int x4), (7, .int x7)] [.int x7] S R _
                refine u_if_eq rfl (fun h18 => ?_) (fun h18 => ?_)
                · have hD := hD.1 h18
                  show u_P L xs m d m_X12_escaped 304 [(6, .int (f_X12_lower x6 ((S 168 x7.toInt.toNat) + (x2 * ((f_X12_hourOf x7 S) - x3))))), (5, .int (f_X12_higher x5 ((S 167 x7.toInt.toNat) - (x2 * ((f_X12_hourOf x7 S) - x3))))), (8, .int (x2 * ((f_X12_hourOf x7 S) - x3))), (0, .ref 100), (1, .int x1), (2, .int x2), (3, .int x3), (4, .int x4), (7, .int x7)] [] S R _
                  refine u_st rfl (fun _ => rfl) ?_
                  refine u_st rfl (fun _ => rfl) ?_
                  show u_P L xs m d m_X12_escaped 307 [(6, .int (f_X12_lower x6 ((S 168 x7.toInt.toNat) + (x2 * ((f_X12_hourOf x7 S) - x3))))), (5, .int (f_X12_higher x5 ((S 167 x7.toInt.toNat) - (x2 * ((f_X12_hourOf x7 S) - x3))))), (8, .int (x2 * ((f_X12_hourOf x7 S) - x3))), (0, .ref 100), (1, .int x1), (2, .int x2), (3, .int x3), (4, .int x4), (7, .int x7)] [.ref 100, .int (f_X12_higher x5 ((S 167 x7.toInt.toNat) - (x2 * ((f_X12_hourOf x7 S) - x3))))] S R _
                  refine u_getr rfl v_tyM rfl ?_
                  refine u_st rfl (fun _ => rfl) ?_
                  show u_P L xs m d m_X12_escaped 312 [(6, .int (f_X12_lower x6 ((S 168 x7.toInt.toNat) + (x2 * ((f_X12_hourOf x7 S) - x3))))), (5, .int (f_X12_higher x5 ((S 167 x7.toInt.toNat) - (x2 * ((f_X12_hourOf x7 S) - x3))))), (8, .int (x2 * ((f_X12_hourOf x7 S) - x3))), (0, .ref 100), (1, .int x1), (2, .int x2), (3, .int x3), (4, .int x4), (7, .int x7)] [.int x7, .ref 170, .int (f_X12_higher x5 ((S 167 x7.toInt.toNat) - (x2 * ((f_X12_hourOf x7 S) - x3))))] S R _
                  refine u_ialdE (v := S 169 x7.toInt.toNat) rfl rfl rfl (fun b191 b192 => ?_)
                  have hD := hD b191 b192
                  show u_P L xs m d m_X12_escaped 313 [(6, .int (f_X12_lower x6 ((S 168 x7.toInt.toNat) + (x2 * ((f_X12_hourOf x7 S) - x3))))), (5, .int (f_X12_higher x5 ((S 167 x7.toInt.toNat) - (x2 * ((f_X12_hourOf x7 S) - x3))))), (8, .int (x2 * ((f_X12_hourOf x7 S) - x3))), (0, .ref 100), (1, .int x1), (2, .int x2), (3, .int x3), (4, .int x4), (7, .int x7)] [.int (S 169 x7.toInt.toNat), .int (f_X12_higher x5 ((S 167 x7.toInt.toNat) - (x2 * ((f_X12_hourOf x7 S) - x3))))] S R _
                  refine u_st rfl (fun _ => rfl) ?_
                  refine u_st rfl (fun _ => rfl) ?_
                  show u_P L xs m d m_X12_escaped 316 [(6, .int (f_X12_lower x6 ((S 168 x7.toInt.toNat) + (x2 * ((f_X12_hourOf x7 S) - x3))))), (5, .int (f_X12_higher x5 ((S 167 x7.toInt.toNat) - (x2 * ((f_X12_hourOf x7 S) - x3))))), (8, .int (x2 * ((f_X12_hourOf x7 S) - x3))), (0, .ref 100), (1, .int x1), (2, .int x2), (3, .int x3), (4, .int x4), (7, .int x7)] [.int ((S 169 x7.toInt.toNat) - (x2 * ((f_X12_hourOf x7 S) - x3))), .int (f_X12_higher x5 ((S 167 x7.toInt.toNat) - (x2 * ((f_X12_hourOf x7 S) - x3))))] S R _
                  refine u_cs (ac := [.int (f_X12_higher x5 ((S 167 x7.toInt.toNat) - (x2 * ((f_X12_hourOf x7 S) - x3)))), .int ((S 169 x7.toInt.toNat) - (x2 * ((f_X12_hourOf x7 S) - x3)))]) (rest := []) rfl (by decide) mt_X12_higher (fun _ => rfl) (Nat.le_of_ble_eq_true rfl) (Nat.le_of_ble_eq_true rfl) (fun d' => c_X12_higher L xs m d' (f_X12_higher x5 ((S 167 x7.toInt.toNat) - (x2 * ((f_X12_hourOf x7 S) - x3)))) ((S 169 x7.toInt.toNat) - (x2 * ((f_X12_hourOf x7 S) - x3))) S R) ?_
                  rintro _ _ _ ⟨_, rfl, rfl, rfl, rfl⟩
                  refine u_st rfl (fun _ => rfl) ?_
                  refine u_st rfl (fun _ => rfl) ?_
                  refine u_st rfl (fun _ => rfl) ?_
                  show u_P L xs m d m_X12_escaped 324 [(5, .int (f_X12_higher (f_X12_higher x5 ((S 167 x7.toInt.toNat) - (x2 * ((f_X12_hourOf x7 S) - x3)))) ((S 169 x7.toInt.toNat) - (x2 * ((f_X12_hourOf x7 S) - x3))))), (6, .int (f_X12_lower x6 ((S 168 x7.toInt.toNat) + (x2 * ((f_X12_hourOf x7 S) - x3))))), (8, .int (x2 * ((f_X12_hourOf x7 S) - x3))), (0, .ref 100), (1, .int x1), (2, .int x2), (3, .int x3), (4, .int x4), (7, .int x7)] [.ref 100, .int (f_X12_lower x6 ((S 168 x7.toInt.toNat) + (x2 * ((f_X12_hourOf x7 S) - x3))))] S R _
                  refine u_getr rfl v_tyM rfl ?_
                  refine u_st rfl (fun _ => rfl) ?_
                  show u_P L xs m d m_X12_escaped 329 [(5, .int (f_X12_higher (f_X12_higher x5 ((S 167 x7.toInt.toNat) - (x2 * ((f_X12_hourOf x7 S) - x3)))) ((S 169 x7.toInt.toNat) - (x2 * ((f_X12_hourOf x7 S) - x3))))), (6, .int (f_X12_lower x6 ((S 168 x7.toInt.toNat) + (x2 * ((f_X12_hourOf x7 S) - x3))))), (8, .int (x2 * ((f_X12_hourOf x7 S) - x3))), (0, .ref 100), (1, .int x1), (2, .int x2), (3, .int x3), (4, .int x4), (7, .int x7)] [.int x7, .ref 171, .int (f_X12_lower x6 ((S 168 x7.toInt.toNat) + (x2 * ((f_X12_hourOf x7 S) - x3))))] S R _
                  refine u_ialdE (v := S 170 x7.toInt.toNat) rfl rfl rfl (fun b201 b202 => ?_)
                  have hD := hD b201 b202
                  show u_P L xs m d m_X12_escaped 330 [(5, .int (f_X12_higher (f_X12_higher x5 ((S 167 x7.toInt.toNat) - (x2 * ((f_X12_hourOf x7 S) - x3)))) ((S 169 x7.toInt.toNat) - (x2 * ((f_X12_hourOf x7 S) - x3))))), (6, .int (f_X12_lower x6 ((S 168 x7.toInt.toNat) + (x2 * ((f_X12_hourOf x7 S) - x3))))), (8, .int (x2 * ((f_X12_hourOf x7 S) - x3))), (0, .ref 100), (1, .int x1), (2, .int x2), (3, .int x3), (4, .int x4), (7, .int x7)] [.int (S 170 x7.toInt.toNat), .int (f_X12_lower x6 ((S 168 x7.toInt.toNat) + (x2 * ((f_X12_hourOf x7 S) - x3))))] S R _
                  refine u_st rfl (fun _ => rfl) ?_
                  refine u_st rfl (fun _ => rfl) ?_
                  show u_P L xs m d m_X12_escaped 333 [(5, .int (f_X12_higher (f_X12_higher x5 ((S 167 x7.toInt.toNat) - (x2 * ((f_X12_hourOf x7 S) - x3)))) ((S 169 x7.toInt.toNat) - (x2 * ((f_X12_hourOf x7 S) - x3))))), (6, .int (f_X12_lower x6 ((S 168 x7.toInt.toNat) + (x2 * ((f_X12_hourOf x7 S) - x3))))), (8, .int (x2 * ((f_X12_hourOf x7 S) - x3))), (0, .ref 100), (1, .int x1), (2, .int x2), (3, .int x3), (4, .int x4), (7, .int x7)] [.int ((S 170 x7.toInt.toNat) + (x2 * ((f_X12_hourOf x7 S) - x3))), .int (f_X12_lower x6 ((S 168 x7.toInt.toNat) + (x2 * ((f_X12_hourOf x7 S) - x3))))] S R _
                  refine u_cs (ac := [.int (f_X12_lower x6 ((S 168 x7.toInt.toNat) + (x2 * ((f_X12_hourOf x7 S) - x3)))), .int ((S 170 x7.toInt.toNat) + (x2 * ((f_X12_hourOf x7 S) - x3)))]) (rest := []) rfl (by decide) mt_X12_lower (fun _ => rfl) (Nat.le_of_ble_eq_true rfl) (Nat.le_of_ble_eq_true rfl) (fun d' => c_X12_lower L xs m d' (f_X12_lower x6 ((S 168 x7.toInt.toNat) + (x2 * ((f_X12_hourOf x7 S) - x3)))) ((S 170 x7.toInt.toNat) + (x2 * ((f_X12_hourOf x7 S) - x3))) S R) ?_
                  rintro _ _ _ ⟨_, rfl, rfl, rfl, rfl⟩
                  refine u_st rfl (fun _ => rfl) ?_
                  refine u_st rfl (fun _ => rfl) ?_
                  refine u_st rfl (fun _ => rfl) ?_
                  refine u_lc (b := [(0, .ref 100), (1, .int x1), (2, .int x2), (3, .int x3), (4, .int x4), (5, .int (f_X12_higher (f_X12_higher x5 ((S 167 x7.toInt.toNat) - (x2 * ((f_X12_hourOf x7 S) - x3)))) ((S 169 x7.toInt.toNat) - (x2 * ((f_X12_hourOf x7 S) - x3))))), (6, .int (f_X12_lower (f_X12_lower x6 ((S 168 x7.toInt.toNat) + (x2 * ((f_X12_hourOf x7 S) - x3)))) ((S 170 x7.toInt.toNat) + (x2 * ((f_X12_hourOf x7 S) - x3))))), (7, .int (x7 + (Int32.ofInt 1))), (8, .int (x2 * ((f_X12_hourOf x7 S) - x3)))]) (show ([7, 6, 5, 8, 0, 1, 2, 3, 4] : List Nat).Nodup by decide) (show ([0, 1, 2, 3, 4, 5, 6, 7, 8] : List Nat).Nodup by decide) (fun i => match i with | 0 => rfl | 1 => rfl | 2 => rfl | 3 => rfl | 4 => rfl | 5 => rfl | 6 => rfl | 7 => rfl | 8 => rfl | _ + 9 => rfl) ?_
                  exact (ih m hm).2.2 d (x2 * ((f_X12_hourOf x7 S) - x3)) x1 x2 x3 x4 (f_X12_higher (f_X12_higher x5 ((S 167 x7.toInt.toNat) - (x2 * ((f_X12_hourOf x7 S) - x3)))) ((S 169 x7.toInt.toNat) - (x2 * ((f_X12_hourOf x7 S) - x3)))) (f_X12_lower (f_X12_lower x6 ((S 168 x7.toInt.toNat) + (x2 * ((f_X12_hourOf x7 S) - x3)))) ((S 170 x7.toInt.toNat) + (x2 * ((f_X12_hourOf x7 S) - x3)))) (x7 + (Int32.ofInt 1)) S hD
                · have hD := hD.2 h18
                  show u_P L xs m d m_X12_escaped 292 [(6, .int (f_X12_lower x6 ((S 168 x7.toInt.toNat) + (x2 * ((f_X12_hourOf x7 S) - x3))))), (5, .int (f_X12_higher x5 ((S 167 x7.toInt.toNat) - (x2 * ((f_X12_hourOf x7 S) - x3))))), (8, .int (x2 * ((f_X12_hourOf x7 S) - x3))), (0, .ref 100), (1, .int x1), (2, .int x2), (3, .int x3), (4, .int x4), (7, .int x7)] [] S R _
                  refine u_st rfl (fun _ => rfl) ?_
                  refine u_st rfl (fun _ => rfl) ?_
                  refine u_st rfl (fun _ => rfl) ?_
                  refine u_st rfl (fun _ => rfl) ?_
                  show u_P L xs m d m_X12_escaped 297 [(6, .int (f_X12_lower x6 ((S 168 x7.toInt.toNat) + (x2 * ((f_X12_hourOf x7 S) - x3))))), (5, .int (f_X12_higher x5 ((S 167 x7.toInt.toNat) - (x2 * ((f_X12_hourOf x7 S) - x3))))), (8, .int (x2 * ((f_X12_hourOf x7 S) - x3))), (0, .ref 100), (1, .int x1), (2, .int x2), (3, .int x3), (4, .int x4), (7, .int x7)] [.int (x7 - (Int32.ofInt 1)), .ref 100] S R _
                  refine u_cv (rest := []) rfl (by decide) mt_X12_hourOf v_tyM rfl rfl rfl (Nat.le_of_ble_eq_true rfl) (Nat.le_of_ble_eq_true rfl) (Nat.le_of_ble_eq_true rfl) (fun d' => c_X12_hourOf L xs m d' (x7 - (Int32.ofInt 1)) S R) ?_
                  rintro _ _ _ ⟨_, rfl, rfl, rfl, rfl⟩
                  refine u_st rfl (fun _ => rfl) ?_
                  show u_P L xs m d m_X12_escaped 301 [(6, .int (f_X12_lower x6 ((S 168 x7.toInt.toNat) + (x2 * ((f_X12_hourOf x7 S) - x3))))), (5, .int (f_X12_higher x5 ((S 167 x7.toInt.toNat) - (x2 * ((f_X12_hourOf x7 S) - x3))))), (8, .int (x2 * ((f_X12_hourOf x7 S) - x3))), (0, .ref 100), (1, .int x1), (2, .int x2), (3, .int x3), (4, .int x4), (7, .int x7)] [.int x3, .int (f_X12_hourOf (x7 - (Int32.ofInt 1)) S)] S R _
                  refine u_ic_gt rfl (fun h21 => ?_) (fun h21 => ?_)
                  · have hD := hD.1 h21
                    show u_P L xs m d m_X12_escaped 338 [(6, .int (f_X12_lower x6 ((S 168 x7.toInt.toNat) + (x2 * ((f_X12_hourOf x7 S) - x3))))), (5, .int (f_X12_higher x5 ((S 167 x7.toInt.toNat) - (x2 * ((f_X12_hourOf x7 S) - x3))))), (8, .int (x2 * ((f_X12_hourOf x7 S) - x3))), (0, .ref 100), (1, .int x1), (2, .int x2), (3, .int x3), (4, .int x4), (7, .int x7)] [] S R _
                    refine u_st rfl (fun _ => rfl) ?_
                    refine u_st rfl (fun _ => rfl) ?_
                    refine u_lc (b := [(0, .ref 100), (1, .int x1), (2, .int x2), (3, .int x3), (4, .int x4), (5, .int (f_X12_higher x5 ((S 167 x7.toInt.toNat) - (x2 * ((f_X12_hourOf x7 S) - x3))))), (6, .int (f_X12_lower x6 ((S 168 x7.toInt.toNat) + (x2 * ((f_X12_hourOf x7 S) - x3))))), (7, .int (x7 + (Int32.ofInt 1))), (8, .int (x2 * ((f_X12_hourOf x7 S) - x3)))]) (show ([7, 6, 5, 8, 0, 1, 2, 3, 4] : List Nat).Nodup by decide) (show ([0, 1, 2, 3, 4, 5, 6, 7, 8] : List Nat).Nodup by decide) (fun i => match i with | 0 => rfl | 1 => rfl | 2 => rfl | 3 => rfl | 4 => rfl | 5 => rfl | 6 => rfl | 7 => rfl | 8 => rfl | _ + 9 => rfl) ?_
                    exact (ih m hm).2.2 d (x2 * ((f_X12_hourOf x7 S) - x3)) x1 x2 x3 x4 (f_X12_higher x5 ((S 167 x7.toInt.toNat) - (x2 * ((f_X12_hourOf x7 S) - x3)))) (f_X12_lower x6 ((S 168 x7.toInt.toNat) + (x2 * ((f_X12_hourOf x7 S) - x3)))) (x7 + (Int32.ofInt 1)) S hD
                  · have hD := hD.2 h21
                    show u_P L xs m d m_X12_escaped 304 [(6, .int (f_X12_lower x6 ((S 168 x7.toInt.toNat) + (x2 * ((f_X12_hourOf x7 S) - x3))))), (5, .int (f_X12_higher x5 ((S 167 x7.toInt.toNat) - (x2 * ((f_X12_hourOf x7 S) - x3))))), (8, .int (x2 * ((f_X12_hourOf x7 S) - x3))), (0, .ref 100), (1, .int x1), (2, .int x2), (3, .int x3), (4, .int x4), (7, .int x7)] [] S R _
                    refine u_st rfl (fun _ => rfl) ?_
                    refine u_st rfl (fun _ => rfl) ?_
                    show u_P L xs m d m_X12_escaped 307 [(6, .int (f_X12_lower x6 ((S 168 x7.toInt.toNat) + (x2 * ((f_X12_hourOf x7 S) - x3))))), (5, .int (f_X12_higher x5 ((S 167 x7.toInt.toNat) - (x2 * ((f_X12_hourOf x7 S) - x3))))), (8, .int (x2 * ((f_X12_hourOf x7 S) - x3))), (0, .ref 100), (1, .int x1), (2, .int x2), (3, .int x3), (4, .int x4), (7, .int x7)] [.ref 100, .int (f_X12_higher x5 ((S 167 x7.toInt.toNat) - (x2 * ((f_X12_hourOf x7 S) - x3))))] S R _
                    refine u_getr rfl v_tyM rfl ?_
                    refine u_st rfl (fun _ => rfl) ?_
                    show u_P L xs m d m_X12_escaped 312 [(6, .int (f_X12_lower x6 ((S 168 x7.toInt.toNat) + (x2 * ((f_X12_hourOf x7 S) - x3))))), (5, .int (f_X12_higher x5 ((S 167 x7.toInt.toNat) - (x2 * ((f_X12_hourOf x7 S) - x3))))), (8, .int (x2 * ((f_X12_hourOf x7 S) - x3))), (0, .ref 100), (1, .int x1), (2, .int x2), (3, .int x3), (4, .int x4), (7, .int x7)] [.int x7, .ref 170, .int (f_X12_higher x5 ((S 167 x7.toInt.toNat) - (x2 * ((f_X12_hourOf x7 S) - x3))))] S R _
                    refine u_ialdE (v := S 169 x7.toInt.toNat) rfl rfl rfl (fun b221 b222 => ?_)
                    have hD := hD b221 b222
                    show u_P L xs m d m_X12_escaped 313 [(6, .int (f_X12_lower x6 ((S 168 x7.toInt.toNat) + (x2 * ((f_X12_hourOf x7 S) - x3))))), (5, .int (f_X12_higher x5 ((S 167 x7.toInt.toNat) - (x2 * ((f_X12_hourOf x7 S) - x3))))), (8, .int (x2 * ((f_X12_hourOf x7 S) - x3))), (0, .ref 100), (1, .int x1), (2, .int x2), (3, .int x3), (4, .int x4), (7, .int x7)] [.int (S 169 x7.toInt.toNat), .int (f_X12_higher x5 ((S 167 x7.toInt.toNat) - (x2 * ((f_X12_hourOf x7 S) - x3))))] S R _
                    refine u_st rfl (fun _ => rfl) ?_
                    refine u_st rfl (fun _ => rfl) ?_
                    show u_P L xs m d m_X12_escaped 316 [(6, .int (f_X12_lower x6 ((S 168 x7.toInt.toNat) + (x2 * ((f_X12_hourOf x7 S) - x3))))), (5, .int (f_X12_higher x5 ((S 167 x7.toInt.toNat) - (x2 * ((f_X12_hourOf x7 S) - x3))))), (8, .int (x2 * ((f_X12_hourOf x7 S) - x3))), (0, .ref 100), (1, .int x1), (2, .int x2), (3, .int x3), (4, .int x4), (7, .int x7)] [.int ((S 169 x7.toInt.toNat) - (x2 * ((f_X12_hourOf x7 S) - x3))), .int (f_X12_higher x5 ((S 167 x7.toInt.toNat) - (x2 * ((f_X12_hourOf x7 S) - x3))))] S R _
                    refine u_cs (ac := [.int (f_X12_higher x5 ((S 167 x7.toInt.toNat) - (x2 * ((f_X12_hourOf x7 S) - x3)))), .int ((S 169 x7.toInt.toNat) - (x2 * ((f_X12_hourOf x7 S) - x3)))]) (rest := []) rfl (by decide) mt_X12_higher (fun _ => rfl) (Nat.le_of_ble_eq_true rfl) (Nat.le_of_ble_eq_true rfl) (fun d' => c_X12_higher L xs m d' (f_X12_higher x5 ((S 167 x7.toInt.toNat) - (x2 * ((f_X12_hourOf x7 S) - x3)))) ((S 169 x7.toInt.toNat) - (x2 * ((f_X12_hourOf x7 S) - x3))) S R) ?_
                    rintro _ _ _ ⟨_, rfl, rfl, rfl, rfl⟩
                    refine u_st rfl (fun _ => rfl) ?_
                    refine u_st rfl (fun _ => rfl) ?_
                    refine u_st rfl (fun _ => rfl) ?_
                    show u_P L xs m d m_X12_escaped 324 [(5, .int (f_X12_higher (f_X12_higher x5 ((S 167 x7.toInt.toNat) - (x2 * ((f_X12_hourOf x7 S) - x3)))) ((S 169 x7.toInt.toNat) - (x2 * ((f_X12_hourOf x7 S) - x3))))), (6, .int (f_X12_lower x6 ((S 168 x7.toInt.toNat) + (x2 * ((f_X12_hourOf x7 S) - x3))))), (8, .int (x2 * ((f_X12_hourOf x7 S) - x3))), (0, .ref 100), (1, .int x1), (2, .int x2), (3, .int x3), (4, .int x4), (7, .int x7)] [.ref 100, .int (f_X12_lower x6 ((S 168 x7.toInt.toNat) + (x2 * ((f_X12_hourOf x7 S) - x3))))] S R _
                    refine u_getr rfl v_tyM rfl ?_
                    refine u_st rfl (fun _ => rfl) ?_
                    show u_P L xs m d m_X12_escaped 329 [(5, .int (f_X12_higher (f_X12_higher x5 ((S 167 x7.toInt.toNat) - (x2 * ((f_X12_hourOf x7 S) - x3)))) ((S 169 x7.toInt.toNat) - (x2 * ((f_X12_hourOf x7 S) - x3))))), (6, .int (f_X12_lower x6 ((S 168 x7.toInt.toNat) + (x2 * ((f_X12_hourOf x7 S) - x3))))), (8, .int (x2 * ((f_X12_hourOf x7 S) - x3))), (0, .ref 100), (1, .int x1), (2, .int x2), (3, .int x3), (4, .int x4), (7, .int x7)] [.int x7, .ref 171, .int (f_X12_lower x6 ((S 168 x7.toInt.toNat) + (x2 * ((f_X12_hourOf x7 S) - x3))))] S R _
                    refine u_ialdE (v := S 170 x7.toInt.toNat) rfl rfl rfl (fun b231 b232 => ?_)
                    have hD := hD b231 b232
                    show u_P L xs m d m_X12_escaped 330 [(5, .int (f_X12_higher (f_X12_higher x5 ((S 167 x7.toInt.toNat) - (x2 * ((f_X12_hourOf x7 S) - x3)))) ((S 169 x7.toInt.toNat) - (x2 * ((f_X12_hourOf x7 S) - x3))))), (6, .int (f_X12_lower x6 ((S 168 x7.toInt.toNat) + (x2 * ((f_X12_hourOf x7 S) - x3))))), (8, .int (x2 * ((f_X12_hourOf x7 S) - x3))), (0, .ref 100), (1, .int x1), (2, .int x2), (3, .int x3), (4, .int x4), (7, .int x7)] [.int (S 170 x7.toInt.toNat), .int (f_X12_lower x6 ((S 168 x7.toInt.toNat) + (x2 * ((f_X12_hourOf x7 S) - x3))))] S R _
                    refine u_st rfl (fun _ => rfl) ?_
                    refine u_st rfl (fun _ => rfl) ?_
                    show u_P L xs m d m_X12_escaped 333 [(5, .int (f_X12_higher (f_X12_higher x5 ((S 167 x7.toInt.toNat) - (x2 * ((f_X12_hourOf x7 S) - x3)))) ((S 169 x7.toInt.toNat) - (x2 * ((f_X12_hourOf x7 S) - x3))))), (6, .int (f_X12_lower x6 ((S 168 x7.toInt.toNat) + (x2 * ((f_X12_hourOf x7 S) - x3))))), (8, .int (x2 * ((f_X12_hourOf x7 S) - x3))), (0, .ref 100), (1, .int x1), (2, .int x2), (3, .int x3), (4, .int x4), (7, .int x7)] [.int ((S 170 x7.toInt.toNat) + (x2 * ((f_X12_hourOf x7 S) - x3))), .int (f_X12_lower x6 ((S 168 x7.toInt.toNat) + (x2 * ((f_X12_hourOf x7 S) - x3))))] S R _
                    refine u_cs (ac := [.int (f_X12_lower x6 ((S 168 x7.toInt.toNat) + (x2 * ((f_X12_hourOf x7 S) - x3)))), .int ((S 170 x7.toInt.toNat) + (x2 * ((f_X12_hourOf x7 S) - x3)))]) (rest := []) rfl (by decide) mt_X12_lower (fun _ => rfl) (Nat.le_of_ble_eq_true rfl) (Nat.le_of_ble_eq_true rfl) (fun d' => c_X12_lower L xs m d' (f_X12_lower x6 ((S 168 x7.toInt.toNat) + (x2 * ((f_X12_hourOf x7 S) - x3)))) ((S 170 x7.toInt.toNat) + (x2 * ((f_X12_hourOf x7 S) - x3))) S R) ?_
                    rintro _ _ _ ⟨_, rfl, rfl, rfl, rfl⟩
                    refine u_st rfl (fun _ => rfl) ?_
                    refine u_st rfl (fun _ => rfl) ?_
                    refine u_st rfl (fun _ => rfl) ?_
                    refine u_lc (b := [(0, .ref 100), (1, .int x1), (2, .int x2), (3, .int x3), (4, .int x4), (5, .int (f_X12_higher (f_X12_higher x5 ((S 167 x7.toInt.toNat) - (x2 * ((f_X12_hourOf x7 S) - x3)))) ((S 169 x7.toInt.toNat) - (x2 * ((f_X12_hourOf x7 S) - x3))))), (6, .int (f_X12_lower (f_X12_lower x6 ((S 168 x7.toInt.toNat) + (x2 * ((f_X12_hourOf x7 S) - x3)))) ((S 170 x7.toInt.toNat) + (x2 * ((f_X12_hourOf x7 S) - x3))))), (7, .int (x7 + (Int32.ofInt 1))), (8, .int (x2 * ((f_X12_hourOf x7 S) - x3)))]) (show ([7, 6, 5, 8, 0, 1, 2, 3, 4] : List Nat).Nodup by decide) (show ([0, 1, 2, 3, 4, 5, 6, 7, 8] : List Nat).Nodup by decide) (fun i => match i with | 0 => rfl | 1 => rfl | 2 => rfl | 3 => rfl | 4 => rfl | 5 => rfl | 6 => rfl | 7 => rfl | 8 => rfl | _ + 9 => rfl) ?_
                    exact (ih m hm).2.2 d (x2 * ((f_X12_hourOf x7 S) - x3)) x1 x2 x3 x4 (f_X12_higher (f_X12_higher x5 ((S 167 x7.toInt.toNat) - (x2 * ((f_X12_hourOf x7 S) - x3)))) ((S 169 x7.toInt.toNat) - (x2 * ((f_X12_hourOf x7 S) - x3)))) (f_X12_lower (f_X12_lower x6 ((S 168 x7.toInt.toNat) + (x2 * ((f_X12_hourOf x7 S) - x3)))) ((S 170 x7.toInt.toNat) + (x2 * ((f_X12_hourOf x7 S) - x3)))) (x7 + (Int32.ofInt 1)) S hD
            · have hD := hD.2 h14
              show u_P L xs m d m_X12_escaped 231 [(8, .int (x2 * ((f_X12_hourOf x7 S) - x3))), (0, .ref 100), (1, .int x1), (2, .int x2), (3, .int x3), (4, .int x4), (5, .int x5), (6, .int x6), (7, .int x7)] [] S R _
              refine u_st rfl (fun _ => rfl) ?_
              refine u_st rfl (fun _ => rfl) ?_
              refine u_st rfl (fun _ => rfl) ?_
              refine u_st rfl (fun _ => rfl) ?_
              show u_P L xs m d m_X12_escaped 236 [(8, .int (x2 * ((f_X12_hourOf x7 S) - x3))), (0, .ref 100), (1, .int x1), (2, .int x2), (3, .int x3), (4, .int x4), (5, .int x5), (6, .int x6), (7, .int x7)] [.int (x7 + (Int32.ofInt 1)), .ref 100] S R _
              refine u_cv (rest := []) rfl (by decide) mt_X12_hourOf v_tyM rfl rfl rfl (Nat.le_of_ble_eq_true rfl) (Nat.le_of_ble_eq_true rfl) (Nat.le_of_ble_eq_true rfl) (fun d' => c_X12_hourOf L xs m d' (x7 + (Int32.ofInt 1)) S R) ?_
              rintro _ _ _ ⟨_, rfl, rfl, rfl, rfl⟩
              refine u_st rfl (fun _ => rfl) ?_
              show u_P L xs m d m_X12_escaped 240 [(8, .int (x2 * ((f_X12_hourOf x7 S) - x3))), (0, .ref 100), (1, .int x1), (2, .int x2), (3, .int x3), (4, .int x4), (5, .int x5), (6, .int x6), (7, .int x7)] [.int x3, .int (f_X12_hourOf (x7 + (Int32.ofInt 1)) S)] S R _
              refine u_ic_le rfl (fun h24 => ?_) (fun h24 => ?_)
              · have hD := hD.1 h24
                show u_P L xs m d m_X12_escaped 277 [(8, .int (x2 * ((f_X12_hourOf x7 S) - x3))), (0, .ref 100), (1, .int x1), (2, .int x2), (3, .int x3), (4, .int x4), (5, .int x5), (6, .int x6), (7, .int x7)] [] S R _
                refine u_st rfl (fun _ => rfl) ?_
                refine u_st rfl (fun _ => rfl) ?_
                show u_P L xs m d m_X12_escaped 280 [(8, .int (x2 * ((f_X12_hourOf x7 S) - x3))), (0, .ref 100), (1, .int x1), (2, .int x2), (3, .int x3), (4, .int x4), (5, .int x5), (6, .int x6), (7, .int x7)] [.int x7, .ref 100] S R _
                refine u_cv (rest := []) rfl (by decide) mt_X12_hourOf v_tyM rfl rfl rfl (Nat.le_of_ble_eq_true rfl) (Nat.le_of_ble_eq_true rfl) (Nat.le_of_ble_eq_true rfl) (fun d' => c_X12_hourOf L xs m d' x7 S R) ?_
                rintro _ _ _ ⟨_, rfl, rfl, rfl, rfl⟩
                refine u_st rfl (fun _ => rfl) ?_
                show u_P L xs m d m_X12_escaped 284 [(8, .int (x2 * ((f_X12_hourOf x7 S) - x3))), (0, .ref 100), (1, .int x1), (2, .int x2), (3, .int x3), (4, .int x4), (5, .int x5), (6, .int x6), (7, .int x7)] [.int x3, .int (f_X12_hourOf x7 S)] S R _
                refine u_ic_le rfl (fun h25 => ?_) (fun h25 => ?_)
                · have hD := hD.1 h25
                  show u_P L xs m d m_X12_escaped 338 [(8, .int (x2 * ((f_X12_hourOf x7 S) - x3))), (0, .ref 100), (1, .int x1), (2, .int x2), (3, .int x3), (4, .int x4), (5, .int x5), (6, .int x6), (7, .int x7)] [] S R _
                  refine u_st rfl (fun _ => rfl) ?_
                  refine u_st rfl (fun _ => rfl) ?_
                  refine u_lc (b := [(0, .ref 100), (1, .int x1), (2, .int x2), (3, .int x3), (4, .int x4), (5, .int x5), (6, .int x6), (7, .int (x7 + (Int32.ofInt 1))), (8, .int (x2 * ((f_X12_hourOf x7 S) - x3)))]) (show ([7, 8, 0, 1, 2, 3, 4, 5, 6] : List Nat).Nodup by decide) (show ([0, 1, 2, 3, 4, 5, 6, 7, 8] : List Nat).Nodup by decide) (fun i => match i with | 0 => rfl | 1 => rfl | 2 => rfl | 3 => rfl | 4 => rfl | 5 => rfl | 6 => rfl | 7 => rfl | 8 => rfl | _ + 9 => rfl) ?_
                  exact (ih m hm).2.2 d (x2 * ((f_X12_hourOf x7 S) - x3)) x1 x2 x3 x4 x5 x6 (x7 + (Int32.ofInt 1)) S hD
                · have hD := hD.2 h25
                  show u_P L xs m d m_X12_escaped 287 [(8, .int (x2 * ((f_X12_hourOf x7 S) - x3))), (0, .ref 100), (1, .int x1), (2, .int x2), (3, .int x3), (4, .int x4), (5, .int x5), (6, .int x6), (7, .int x7)] [] S R _
                  refine u_st rfl (fun _ => rfl) ?_
                  show u_P L xs m d m_X12_escaped 289 [(8, .int (x2 * ((f_X12_hourOf x7 S) - x3))), (0, .ref 100), (1, .int x1), (2, .int x2), (3, .int x3), (4, .int x4), (5, .int x5), (6, .int x6), (7, .int x7)] [.int x7] S R _
                  refine u_if_eq rfl (fun h26 => ?_) (fun h26 => ?_)
                  · have hD := hD.1 h26
                    show u_P L xs m d m_X12_escaped 304 [(8, .int (x2 * ((f_X12_hourOf x7 S) - x3))), (0, .ref 100), (1, .int x1), (2, .int x2), (3, .int x3), (4, .int x4), (5, .int x5), (6, .int x6), (7, .int x7)] [] S R _
                    refine u_st rfl (fun _ => rfl) ?_
                    refine u_st rfl (fun _ => rfl) ?_
                    show u_P L xs m d m_X12_escaped 307 [(8, .int (x2 * ((f_X12_hourOf x7 S) - x3))), (0, .ref 100), (1, .int x1), (2, .int x2), (3, .int x3), (4, .int x4), (5, .int x5), (6, .int x6), (7, .int x7)] [.ref 100, .int x5] S R _
                    refine u_getr rfl v_tyM rfl ?_
                    refine u_st rfl (fun _ => rfl) ?_
                    show u_P L xs m d m_X12_escaped 312 [(8, .int (x2 * ((f_X12_hourOf x7 S) - x3))), (0, .ref 100), (1, .int x1), (2, .int x2), (3, .int x3), (4, .int x4), (5, .int x5), (6, .int x6), (7, .int x7)] [.int x7, .ref 170, .int x5] S R _
                    refine u_ialdE (v := S 169 x7.toInt.toNat) rfl rfl rfl (fun b271 b272 => ?_)
                    have hD := hD b271 b272
                    show u_P L xs m d m_X12_escaped 313 [(8, .int (x2 * ((f_X12_hourOf x7 S) - x3))), (0, .ref 100), (1, .int x1), (2, .int x2), (3, .int x3), (4, .int x4), (5, .int x5), (6, .int x6), (7, .int x7)] [.int (S 169 x7.toInt.toNat), .int x5] S R _
                    refine u_st rfl (fun _ => rfl) ?_
                    refine u_st rfl (fun _ => rfl) ?_
                    show u_P L xs m d m_X12_escaped 316 [(8, .int (x2 * ((f_X12_hourOf x7 S) - x3))), (0, .ref 100), (1, .int x1), (2, .int x2), (3, .int x3), (4, .int x4), (5, .int x5), (6, .int x6), (7, .int x7)] [.int ((S 169 x7.toInt.toNat) - (x2 * ((f_X12_hourOf x7 S) - x3))), .int x5] S R _
                    refine u_cs (ac := [.int x5, .int ((S 169 x7.toInt.toNat) - (x2 * ((f_X12_hourOf x7 S) - x3)))]) (rest := []) rfl (by decide) mt_X12_higher (fun _ => rfl) (Nat.le_of_ble_eq_true rfl) (Nat.le_of_ble_eq_true rfl) (fun d' => c_X12_higher L xs m d' x5 ((S 169 x7.toInt.toNat) - (x2 * ((f_X12_hourOf x7 S) - x3))) S R) ?_
                    rintro _ _ _ ⟨_, rfl, rfl, rfl, rfl⟩
                    refine u_st rfl (fun _ => rfl) ?_
                    refine u_st rfl (fun _ => rfl) ?_
                    refine u_st rfl (fun _ => rfl) ?_
                    show u_P L xs m d m_X12_escaped 324 [(5, .int (f_X12_higher x5 ((S 169 x7.toInt.toNat) - (x2 * ((f_X12_hourOf x7 S) - x3))))), (8, .int (x2 * ((f_X12_hourOf x7 S) - x3))), (0, .ref 100), (1, .int x1), (2, .int x2), (3, .int x3), (4, .int x4), (6, .int x6), (7, .int x7)] [.ref 100, .int x6] S R _
                    refine u_getr rfl v_tyM rfl ?_
                    refine u_st rfl (fun _ => rfl) ?_
                    show u_P L xs m d m_X12_escaped 329 [(5, .int (f_X12_higher x5 ((S 169 x7.toInt.toNat) - (x2 * ((f_X12_hourOf x7 S) - x3))))), (8, .int (x2 * ((f_X12_hourOf x7 S) - x3))), (0, .ref 100), (1, .int x1), (2, .int x2), (3, .int x3), (4, .int x4), (6, .int x6), (7, .int x7)] [.int x7, .ref 171, .int x6] S R _
                    refine u_ialdE (v := S 170 x7.toInt.toNat) rfl rfl rfl (fun b281 b282 => ?_)
                    have hD := hD b281 b282
                    show u_P L xs m d m_X12_escaped 330 [(5, .int (f_X12_higher x5 ((S 169 x7.toInt.toNat) - (x2 * ((f_X12_hourOf x7 S) - x3))))), (8, .int (x2 * ((f_X12_hourOf x7 S) - x3))), (0, .ref 100), (1, .int x1), (2, .int x2), (3, .int x3), (4, .int x4), (6, .int x6), (7, .int x7)] [.int (S 170 x7.toInt.toNat), .int x6] S R _
                    refine u_st rfl (fun _ => rfl) ?_
                    refine u_st rfl (fun _ => rfl) ?_
                    show u_P L xs m d m_X12_escaped 333 [(5, .int (f_X12_higher x5 ((S 169 x7.toInt.toNat) - (x2 * ((f_X12_hourOf x7 S) - x3))))), (8, .int (x2 * ((f_X12_hourOf x7 S) - x3))), (0, .ref 100), (1, .int x1), (2, .int x2), (3, .int x3), (4, .int x4), (6, .int x6), (7, .int x7)] [.int ((S 170 x7.toInt.toNat) + (x2 * ((f_X12_hourOf x7 S) - x3))), .int x6] S R _
                    refine u_cs (ac := [.int x6, .int ((S 170 x7.toInt.toNat) + (x2 * ((f_X12_hourOf x7 S) - x3)))]) (rest := []) rfl (by decide) mt_X12_lower (fun _ => rfl) (Nat.le_of_ble_eq_true rfl) (Nat.le_of_ble_eq_true rfl) (fun d' => c_X12_lower L xs m d' x6 ((S 170 x7.toInt.toNat) + (x2 * ((f_X12_hourOf x7 S) - x3))) S R) ?_
                    rintro _ _ _ ⟨_, rfl, rfl, rfl, rfl⟩
                    refine u_st rfl (fun _ => rfl) ?_
                    refine u_st rfl (fun _ => rfl) ?_
                    refine u_st rfl (fun _ => rfl) ?_
                    refine u_lc (b := [(0, .ref 100), (1, .int x1), (2, .int x2), (3, .int x3), (4, .int x4), (5, .int (f_X12_higher x5 ((S 169 x7.toInt.toNat) - (x2 * ((f_X12_hourOf x7 S) - x3))))), (6, .int (f_X12_lower x6 ((S 170 x7.toInt.toNat) + (x2 * ((f_X12_hourOf x7 S) - x3))))), (7, .int (x7 + (Int32.ofInt 1))), (8, .int (x2 * ((f_X12_hourOf x7 S) - x3)))]) (show ([7, 6, 5, 8, 0, 1, 2, 3, 4] : List Nat).Nodup by decide) (show ([0, 1, 2, 3, 4, 5, 6, 7, 8] : List Nat).Nodup by decide) (fun i => match i with | 0 => rfl | 1 => rfl | 2 => rfl | 3 => rfl | 4 => rfl | 5 => rfl | 6 => rfl | 7 => rfl | 8 => rfl | _ + 9 => rfl) ?_
                    exact (ih m hm).2.2 d (x2 * ((f_X12_hourOf x7 S) - x3)) x1 x2 x3 x4 (f_X12_higher x5 ((S 169 x7.toInt.toNat) - (x2 * ((f_X12_hourOf x7 S) - x3)))) (f_X12_lower x6 ((S 170 x7.toInt.toNat) + (x2 * ((f_X12_hourOf x7 S) - x3)))) (x7 + (Int32.ofInt 1)) S hD
                  · have hD := hD.2 h26
                    show u_P L xs m d m_X12_escaped 292 [(8, .int (x2 * ((f_X12_hourOf x7 S) - x3))), (0, .ref 100), (1, .int x1), (2, .int x2), (3, .int x3), (4, .int x4), (5, .int x5), (6, .int x6), (7, .int x7)] [] S R _
                    refine u_st rfl (fun _ => rfl) ?_
                    refine u_st rfl (fun _ => rfl) ?_
                    refine u_st rfl (fun _ => rfl) ?_
                    refine u_st rfl (fun _ => rfl) ?_
                    show u_P L xs m d m_X12_escaped 297 [(8, .int (x2 * ((f_X12_hourOf x7 S) - x3))), (0, .ref 100), (1, .int x1), (2, .int x2), (3, .int x3), (4, .int x4), (5, .int x5), (6, .int x6), (7, .int x7)] [.int (x7 - (Int32.ofInt 1)), .ref 100] S R _
                    refine u_cv (rest := []) rfl (by decide) mt_X12_hourOf v_tyM rfl rfl rfl (Nat.le_of_ble_eq_true rfl) (Nat.le_of_ble_eq_true rfl) (Nat.le_of_ble_eq_true rfl) (fun d' => c_X12_hourOf L xs m d' (x7 - (Int32.ofInt 1)) S R) ?_
                    rintro _ _ _ ⟨_, rfl, rfl, rfl, rfl⟩
                    refine u_st rfl (fun _ => rfl) ?_
                    show u_P L xs m d m_X12_escaped 301 [(8, .int (x2 * ((f_X12_hourOf x7 S) - x3))), (0, .ref 100), (1, .int x1), (2, .int x2), (3, .int x3), (4, .int x4), (5, .int x5), (6, .int x6), (7, .int x7)] [.int x3, .int (f_X12_hourOf (x7 - (Int32.ofInt 1)) S)] S R _
                    refine u_ic_gt rfl (fun h29 => ?_) (fun h29 => ?_)
                    · have hD := hD.1 h29
                      show u_P L xs m d m_X12_escaped 338 [(8, .int (x2 * ((f_X12_hourOf x7 S) - x3))), (0, .ref 100), (1, .int x1), (2, .int x2), (3, .int x3), (4, .int x4), (5, .int x5), (6, .int x6), (7, .int x7)] [] S R _
                      refine u_st rfl (fun _ => rfl) ?_
                      refine u_st rfl (fun _ => rfl) ?_
                      refine u_lc (b := [(0, .ref 100), (1, .int x1), (2, .int x2), (3, .int x3), (4, .int x4), (5, .int x5), (6, .int x6), (7, .int (x7 + (Int32.ofInt 1))), (8, .int (x2 * ((f_X12_hourOf x7 S) - x3)))]) (show ([7, 8, 0, 1, 2, 3, 4, 5, 6] : List Nat).Nodup by decide) (show ([0, 1, 2, 3, 4, 5, 6, 7, 8] : List Nat).Nodup by decide) (fun i => match i with | 0 => rfl | 1 => rfl | 2 => rfl | 3 => rfl | 4 => rfl | 5 => rfl | 6 => rfl | 7 => rfl | 8 => rfl | _ + 9 => rfl) ?_
                      exact (ih m hm).2.2 d (x2 * ((f_X12_hourOf x7 S) - x3)) x1 x2 x3 x4 x5 x6 (x7 + (Int32.ofInt 1)) S hD
                    · have hD := hD.2 h29
                      show u_P L xs m d m_X12_escaped 304 [(8, .int (x2 * ((f_X12_hourOf x7 S) - x3))), (0, .ref 100), (1, .int x1), (2, .int x2), (3, .int x3), (4, .int x4), (5, .int x5), (6, .int x6), (7, .int x7)] [] S R _
                      refine u_st rfl (fun _ => rfl) ?_
                      refine u_st rfl (fun _ => rfl) ?_
                      show u_P L xs m d m_X12_escaped 307 [(8, .int (x2 * ((f_X12_hourOf x7 S) - x3))), (0, .ref 100), (1, .int x1), (2, .int x2), (3, .int x3), (4, .int x4), (5, .int x5), (6, .int x6), (7, .int x7)] [.ref 100, .int x5] S R _
                      refine u_getr rfl v_tyM rfl ?_
                      refine u_st rfl (fun _ => rfl) ?_
                      show u_P L xs m d m_X12_escaped 312 [(8, .int (x2 * ((f_X12_hourOf x7 S) - x3))), (0, .ref 100), (1, .int x1), (2, .int x2), (3, .int x3), (4, .int x4), (5, .int x5), (6, .int x6), (7, .int x7)] [.int x7, .ref 170, .int x5] S R _
                      refine u_ialdE (v := S 169 x7.toInt.toNat) rfl rfl rfl (fun b301 b302 => ?_)
                      have hD := hD b301 b302
                      show u_P L xs m d m_X12_escaped 313 [(8, .int (x2 * ((f_X12_hourOf x7 S) - x3))), (0, .ref 100), (1, .int x1), (2, .int x2), (3, .int x3), (4, .int x4), (5, .int x5), (6, .int x6), (7, .int x7)] [.int (S 169 x7.toInt.toNat), .int x5] S R _
                      refine u_st rfl (fun _ => rfl) ?_
                      refine u_st rfl (fun _ => rfl) ?_
                      show u_P L xs m d m_X12_escaped 316 [(8, .int (x2 * ((f_X12_hourOf x7 S) - x3))), (0, .ref 100), (1, .int x1), (2, .int x2), (3, .int x3), (4, .int x4), (5, .int x5), (6, .int x6), (7, .int x7)] [.int ((S 169 x7.toInt.toNat) - (x2 * ((f_X12_hourOf x7 S) - x3))), .int x5] S R _
                      refine u_cs (ac := [.int x5, .int ((S 169 x7.toInt.toNat) - (x2 * ((f_X12_hourOf x7 S) - x3)))]) (rest := []) rfl (by decide) mt_X12_higher (fun _ => rfl) (Nat.le_of_ble_eq_true rfl) (Nat.le_of_ble_eq_true rfl) (fun d' => c_X12_higher L xs m d' x5 ((S 169 x7.toInt.toNat) - (x2 * ((f_X12_hourOf x7 S) - x3))) S R) ?_
                      rintro _ _ _ ⟨_, rfl, rfl, rfl, rfl⟩
                      refine u_st rfl (fun _ => rfl) ?_
                      refine u_st rfl (fun _ => rfl) ?_
                      refine u_st rfl (fun _ => rfl) ?_
                      show u_P L xs m d m_X12_escaped 324 [(5, .int (f_X12_higher x5 ((S 169 x7.toInt.toNat) - (x2 * ((f_X12_hourOf x7 S) - x3))))), (8, .int (x2 * ((f_X12_hourOf x7 S) - x3))), (0, .ref 100), (1, .int x1), (2, .int x2), (3, .int x3), (4, .int x4), (6, .int x6), (7, .int x7)] [.ref 100, .int x6] S R _
                      refine u_getr rfl v_tyM rfl ?_
                      refine u_st rfl (fun _ => rfl) ?_
                      show u_P L xs m d m_X12_escaped 329 [(5, .int (f_X12_higher x5 ((S 169 x7.toInt.toNat) - (x2 * ((f_X12_hourOf x7 S) - x3))))), (8, .int (x2 * ((f_X12_hourOf x7 S) - x3))), (0, .ref 100), (1, .int x1), (2, .int x2), (3, .int x3), (4, .int x4), (6, .int x6), (7, .int x7)] [.int x7, .ref 171, .int x6] S R _
                      refine u_ialdE (v := S 170 x7.toInt.toNat) rfl rfl rfl (fun b311 b312 => ?_)
                      have hD := hD b311 b312
                      show u_P L xs m d m_X12_escaped 330 [(5, .int (f_X12_higher x5 ((S 169 x7.toInt.toNat) - (x2 * ((f_X12_hourOf x7 S) - x3))))), (8, .int (x2 * ((f_X12_hourOf x7 S) - x3))), (0, .ref 100), (1, .int x1), (2, .int x2), (3, .int x3), (4, .int x4), (6, .int x6), (7, .int x7)] [.int (S 170 x7.toInt.toNat), .int x6] S R _
                      refine u_st rfl (fun _ => rfl) ?_
                      refine u_st rfl (fun _ => rfl) ?_
                      show u_P L xs m d m_X12_escaped 333 [(5, .int (f_X12_higher x5 ((S 169 x7.toInt.toNat) - (x2 * ((f_X12_hourOf x7 S) - x3))))), (8, .int (x2 * ((f_X12_hourOf x7 S) - x3))), (0, .ref 100), (1, .int x1), (2, .int x2), (3, .int x3), (4, .int x4), (6, .int x6), (7, .int x7)] [.int ((S 170 x7.toInt.toNat) + (x2 * ((f_X12_hourOf x7 S) - x3))), .int x6] S R _
                      refine u_cs (ac := [.int x6, .int ((S 170 x7.toInt.toNat) + (x2 * ((f_X12_hourOf x7 S) - x3)))]) (rest := []) rfl (by decide) mt_X12_lower (fun _ => rfl) (Nat.le_of_ble_eq_true rfl) (Nat.le_of_ble_eq_true rfl) (fun d' => c_X12_lower L xs m d' x6 ((S 170 x7.toInt.toNat) + (x2 * ((f_X12_hourOf x7 S) - x3))) S R) ?_
                      rintro _ _ _ ⟨_, rfl, rfl, rfl, rfl⟩
                      refine u_st rfl (fun _ => rfl) ?_
                      refine u_st rfl (fun _ => rfl) ?_
                      refine u_st rfl (fun _ => rfl) ?_
                      refine u_lc (b := [(0, .ref 100), (1, .int x1), (2, .int x2), (3, .int x3), (4, .int x4), (5, .int (f_X12_higher x5 ((S 169 x7.toInt.toNat) - (x2 * ((f_X12_hourOf x7 S) - x3))))), (6, .int (f_X12_lower x6 ((S 170 x7.toInt.toNat) + (x2 * ((f_X12_hourOf x7 S) - x3))))), (7, .int (x7 + (Int32.ofInt 1))), (8, .int (x2 * ((f_X12_hourOf x7 S) - x3)))]) (show ([7, 6, 5, 8, 0, 1, 2, 3, 4] : List Nat).Nodup by decide) (show ([0, 1, 2, 3, 4, 5, 6, 7, 8] : List Nat).Nodup by decide) (fun i => match i with | 0 => rfl | 1 => rfl | 2 => rfl | 3 => rfl | 4 => rfl | 5 => rfl | 6 => rfl | 7 => rfl | 8 => rfl | _ + 9 => rfl) ?_
                      exact (ih m hm).2.2 d (x2 * ((f_X12_hourOf x7 S) - x3)) x1 x2 x3 x4 (f_X12_higher x5 ((S 169 x7.toInt.toNat) - (x2 * ((f_X12_hourOf x7 S) - x3)))) (f_X12_lower x6 ((S 170 x7.toInt.toNat) + (x2 * ((f_X12_hourOf x7 S) - x3)))) (x7 + (Int32.ofInt 1)) S hD
              · have hD := hD.2 h24
                show u_P L xs m d m_X12_escaped 243 [(8, .int (x2 * ((f_X12_hourOf x7 S) - x3))), (0, .ref 100), (1, .int x1), (2, .int x2), (3, .int x3), (4, .int x4), (5, .int x5), (6, .int x6), (7, .int x7)] [] S R _
                refine u_st rfl (fun _ => rfl) ?_
                refine u_st rfl (fun _ => rfl) ?_
                show u_P L xs m d m_X12_escaped 246 [(8, .int (x2 * ((f_X12_hourOf x7 S) - x3))), (0, .ref 100), (1, .int x1), (2, .int x2), (3, .int x3), (4, .int x4), (5, .int x5), (6, .int x6), (7, .int x7)] [.ref 100, .int x5] S R _
                refine u_getr rfl v_tyM rfl ?_
                refine u_st rfl (fun _ => rfl) ?_
                show u_P L xs m d m_X12_escaped 251 [(8, .int (x2 * ((f_X12_hourOf x7 S) - x3))), (0, .ref 100), (1, .int x1), (2, .int x2), (3, .int x3), (4, .int x4), (5, .int x5), (6, .int x6), (7, .int x7)] [.int x7, .ref 168, .int x5] S R _
                refine u_ialdE (v := S 167 x7.toInt.toNat) rfl rfl rfl (fun b321 b322 => ?_)
                have hD := hD b321 b322
                show u_P L xs m d m_X12_escaped 252 [(8, .int (x2 * ((f_X12_hourOf x7 S) - x3))), (0, .ref 100), (1, .int x1), (2, .int x2), (3, .int x3), (4, .int x4), (5, .int x5), (6, .int x6), (7, .int x7)] [.int (S 167 x7.toInt.toNat), .int x5] S R _
                refine u_st rfl (fun _ => rfl) ?_
                refine u_st rfl (fun _ => rfl) ?_
                show u_P L xs m d m_X12_escaped 255 [(8, .int (x2 * ((f_X12_hourOf x7 S) - x3))), (0, .ref 100), (1, .int x1), (2, .int x2), (3, .int x3), (4, .int x4), (5, .int x5), (6, .int x6), (7, .int x7)] [.int ((S 167 x7.toInt.toNat) - (x2 * ((f_X12_hourOf x7 S) - x3))), .int x5] S R _
                refine u_cs (ac := [.int x5, .int ((S 167 x7.toInt.toNat) - (x2 * ((f_X12_hourOf x7 S) - x3)))]) (rest := []) rfl (by decide) mt_X12_higher (fun _ => rfl) (Nat.le_of_ble_eq_true rfl) (Nat.le_of_ble_eq_true rfl) (fun d' => c_X12_higher L xs m d' x5 ((S 167 x7.toInt.toNat) - (x2 * ((f_X12_hourOf x7 S) - x3))) S R) ?_
                rintro _ _ _ ⟨_, rfl, rfl, rfl, rfl⟩
                refine u_st rfl (fun _ => rfl) ?_
                refine u_st rfl (fun _ => rfl) ?_
                refine u_st rfl (fun _ => rfl) ?_
                show u_P L xs m d m_X12_escaped 263 [(5, .int (f_X12_higher x5 ((S 167 x7.toInt.toNat) - (x2 * ((f_X12_hourOf x7 S) - x3))))), (8, .int (x2 * ((f_X12_hourOf x7 S) - x3))), (0, .ref 100), (1, .int x1), (2, .int x2), (3, .int x3), (4, .int x4), (6, .int x6), (7, .int x7)] [.ref 100, .int x6] S R _
                refine u_getr rfl v_tyM rfl ?_
                refine u_st rfl (fun _ => rfl) ?_
                show u_P L xs m d m_X12_escaped 268 [(5, .int (f_X12_higher x5 ((S 167 x7.toInt.toNat) - (x2 * ((f_X12_hourOf x7 S) - x3))))), (8, .int (x2 * ((f_X12_hourOf x7 S) - x3))), (0, .ref 100), (1, .int x1), (2, .int x2), (3, .int x3), (4, .int x4), (6, .int x6), (7, .int x7)] [.int x7, .ref 169, .int x6] S R _
                refine u_ialdE (v := S 168 x7.toInt.toNat) rfl rfl rfl (fun b331 b332 => ?_)
                have hD := hD b331 b332
                show u_P L xs m d m_X12_escaped 269 [(5, .int (f_X12_higher x5 ((S 167 x7.toInt.toNat) - (x2 * ((f_X12_hourOf x7 S) - x3))))), (8, .int (x2 * ((f_X12_hourOf x7 S) - x3))), (0, .ref 100), (1, .int x1), (2, .int x2), (3, .int x3), (4, .int x4), (6, .int x6), (7, .int x7)] [.int (S 168 x7.toInt.toNat), .int x6] S R _
                refine u_st rfl (fun _ => rfl) ?_
                refine u_st rfl (fun _ => rfl) ?_
                show u_P L xs m d m_X12_escaped 272 [(5, .int (f_X12_higher x5 ((S 167 x7.toInt.toNat) - (x2 * ((f_X12_hourOf x7 S) - x3))))), (8, .int (x2 * ((f_X12_hourOf x7 S) - x3))), (0, .ref 100), (1, .int x1), (2, .int x2), (3, .int x3), (4, .int x4), (6, .int x6), (7, .int x7)] [.int ((S 168 x7.toInt.toNat) + (x2 * ((f_X12_hourOf x7 S) - x3))), .int x6] S R _
                refine u_cs (ac := [.int x6, .int ((S 168 x7.toInt.toNat) + (x2 * ((f_X12_hourOf x7 S) - x3)))]) (rest := []) rfl (by decide) mt_X12_lower (fun _ => rfl) (Nat.le_of_ble_eq_true rfl) (Nat.le_of_ble_eq_true rfl) (fun d' => c_X12_lower L xs m d' x6 ((S 168 x7.toInt.toNat) + (x2 * ((f_X12_hourOf x7 S) - x3))) S R) ?_
                rintro _ _ _ ⟨_, rfl, rfl, rfl, rfl⟩
                refine u_st rfl (fun _ => rfl) ?_
                refine u_st rfl (fun _ => rfl) ?_
                refine u_st rfl (fun _ => rfl) ?_
                show u_P L xs m d m_X12_escaped 280 [(6, .int (f_X12_lower x6 ((S 168 x7.toInt.toNat) + (x2 * ((f_X12_hourOf x7 S) - x3))))), (5, .int (f_X12_higher x5 ((S 167 x7.toInt.toNat) - (x2 * ((f_X12_hourOf x7 S) - x3))))), (8, .int (x2 * ((f_X12_hourOf x7 S) - x3))), (0, .ref 100), (1, .int x1), (2, .int x2), (3, .int x3), (4, .int x4), (7, .int x7)] [.int x7, .ref 100] S R _
                refine u_cv (rest := []) rfl (by decide) mt_X12_hourOf v_tyM rfl rfl rfl (Nat.le_of_ble_eq_true rfl) (Nat.le_of_ble_eq_true rfl) (Nat.le_of_ble_eq_true rfl) (fun d' => c_X12_hourOf L xs m d' x7 S R) ?_
                rintro _ _ _ ⟨_, rfl, rfl, rfl, rfl⟩
                refine u_st rfl (fun _ => rfl) ?_
                show u_P L xs m d m_X12_escaped 284 [(6, .int (f_X12_lower x6 ((S 168 x7.toInt.toNat) + (x2 * ((f_X12_hourOf x7 S) - x3))))), (5, .int (f_X12_higher x5 ((S 167 x7.toInt.toNat) - (x2 * ((f_X12_hourOf x7 S) - x3))))), (8, .int (x2 * ((f_X12_hourOf x7 S) - x3))), (0, .ref 100), (1, .int x1), (2, .int x2), (3, .int x3), (4, .int x4), (7, .int x7)] [.int x3, .int (f_X12_hourOf x7 S)] S R _
                refine u_ic_le rfl (fun h34 => ?_) (fun h34 => ?_)
                · have hD := hD.1 h34
                  show u_P L xs m d m_X12_escaped 338 [(6, .int (f_X12_lower x6 ((S 168 x7.toInt.toNat) + (x2 * ((f_X12_hourOf x7 S) - x3))))), (5, .int (f_X12_higher x5 ((S 167 x7.toInt.toNat) - (x2 * ((f_X12_hourOf x7 S) - x3))))), (8, .int (x2 * ((f_X12_hourOf x7 S) - x3))), (0, .ref 100), (1, .int x1), (2, .int x2), (3, .int x3), (4, .int x4), (7, .int x7)] [] S R _
                  refine u_st rfl (fun _ => rfl) ?_
                  refine u_st rfl (fun _ => rfl) ?_
                  refine u_lc (b := [(0, .ref 100), (1, .int x1), (2, .int x2), (3, .int x3), (4, .int x4), (5, .int (f_X12_higher x5 ((S 167 x7.toInt.toNat) - (x2 * ((f_X12_hourOf x7 S) - x3))))), (6, .int (f_X12_lower x6 ((S 168 x7.toInt.toNat) + (x2 * ((f_X12_hourOf x7 S) - x3))))), (7, .int (x7 + (Int32.ofInt 1))), (8, .int (x2 * ((f_X12_hourOf x7 S) - x3)))]) (show ([7, 6, 5, 8, 0, 1, 2, 3, 4] : List Nat).Nodup by decide) (show ([0, 1, 2, 3, 4, 5, 6, 7, 8] : List Nat).Nodup by decide) (fun i => match i with | 0 => rfl | 1 => rfl | 2 => rfl | 3 => rfl | 4 => rfl | 5 => rfl | 6 => rfl | 7 => rfl | 8 => rfl | _ + 9 => rfl) ?_
                  exact (ih m hm).2.2 d (x2 * ((f_X12_hourOf x7 S) - x3)) x1 x2 x3 x4 (f_X12_higher x5 ((S 167 x7.toInt.toNat) - (x2 * ((f_X12_hourOf x7 S) - x3)))) (f_X12_lower x6 ((S 168 x7.toInt.toNat) + (x2 * ((f_X12_hourOf x7 S) - x3)))) (x7 + (Int32.ofInt 1)) S hD
                · have hD := hD.2 h34
                  show u_P L xs m d m_X12_escaped 287 [(6, .int (f_X12_lower x6 ((S 168 x7.toInt.toNat) + (x2 * ((f_X12_hourOf x7 S) - x3))))), (5, .int (f_X12_higher x5 ((S 167 x7.toInt.toNat) - (x2 * ((f_X12_hourOf x7 S) - x3))))), (8, .int (x2 * ((f_X12_hourOf x7 S) - x3))), (0, .ref 100), (1, .int x1), (2, .int x2), (3, .int x3), (4, .int x4), (7, .int x7)] [] S R _
                  refine u_st rfl (fun _ => rfl) ?_
                  show u_P L xs m d m_X12_escaped 289 [(6, .int (f_X12_lower x6 ((S 168 x7.toInt.toNat) + (x2 * ((f_X12_hourOf x7 S) - x3))))), (5, .int (f_X12_higher x5 ((S 167 x7.toInt.toNat) - (x2 * ((f_X12_hourOf x7 S) - x3))))), (8, .int (x2 * ((f_X12_hourOf x7 S) - x3))), (0, .ref 100), (1, .int x1), (2, .int x2), (3, .int x3), (4, .int x4), (7, .int x7)] [.int x7] S R _
                  refine u_if_eq rfl (fun h35 => ?_) (fun h35 => ?_)
                  · have hD := hD.1 h35
                    show u_P L xs m d m_X12_escaped 304 [(6, .int (f_X12_lower x6 ((S 168 x7.toInt.toNat) + (x2 * ((f_X12_hourOf x7 S) - x3))))), (5, .int (f_X12_higher x5 ((S 167 x7.toInt.toNat) - (x2 * ((f_X12_hourOf x7 S) - x3))))), (8, .int (x2 * ((f_X12_hourOf x7 S) - x3))), (0, .ref 100), (1, .int x1), (2, .int x2), (3, .int x3), (4, .int x4), (7, .int x7)] [] S R _
                    refine u_st rfl (fun _ => rfl) ?_
                    refine u_st rfl (fun _ => rfl) ?_
                    show u_P L xs m d m_X12_escaped 307 [(6, .int (f_X12_lower x6 ((S 168 x7.toInt.toNat) + (x2 * ((f_X12_hourOf x7 S) - x3))))), (5, .int (f_X12_higher x5 ((S 167 x7.toInt.toNat) - (x2 * ((f_X12_hourOf x7 S) - x3))))), (8, .int (x2 * ((f_X12_hourOf x7 S) - x3))), (0, .ref 100), (1, .int x1), (2, .int x2), (3, .int x3), (4, .int x4), (7, .int x7)] [.ref 100, .int (f_X12_higher x5 ((S 167 x7.toInt.toNat) - (x2 * ((f_X12_hourOf x7 S) - x3))))] S R _
                    refine u_getr rfl v_tyM rfl ?_
                    refine u_st rfl (fun _ => rfl) ?_
                    show u_P L xs m d m_X12_escaped 312 [(6, .int (f_X12_lower x6 ((S 168 x7.toInt.toNat) + (x2 * ((f_X12_hourOf x7 S) - x3))))), (5, .int (f_X12_higher x5 ((S 167 x7.toInt.toNat) - (x2 * ((f_X12_hourOf x7 S) - x3))))), (8, .int (x2 * ((f_X12_hourOf x7 S) - x3))), (0, .ref 100), (1, .int x1), (2, .int x2), (3, .int x3), (4, .int x4), (7, .int x7)] [.int x7, .ref 170, .int (f_X12_higher x5 ((S 167 x7.toInt.toNat) - (x2 * ((f_X12_hourOf x7 S) - x3))))] S R _
                    refine u_ialdE (v := S 169 x7.toInt.toNat) rfl rfl rfl (fun b361 b362 => ?_)
                    have hD := hD b361 b362
                    show u_P L xs m d m_X12_escaped 313 [(6, .int (f_X12_lower x6 ((S 168 x7.toInt.toNat) + (x2 * ((f_X12_hourOf x7 S) - x3))))), (5, .int (f_X12_higher x5 ((S 167 x7.toInt.toNat) - (x2 * ((f_X12_hourOf x7 S) - x3))))), (8, .int (x2 * ((f_X12_hourOf x7 S) - x3))), (0, .ref 100), (1, .int x1), (2, .int x2), (3, .int x3), (4, .int x4), (7, .int x7)] [.int (S 169 x7.toInt.toNat), .int (f_X12_higher x5 ((S 167 x7.toInt.toNat) - (x2 * ((f_X12_hourOf x7 S) - x3))))] S R _
                    refine u_st rfl (fun _ => rfl) ?_
                    refine u_st rfl (fun _ => rfl) ?_
                    show u_P L xs m d m_X12_escaped 316 [(6, .int (f_X12_lower x6 ((S 168 x7.toInt.toNat) + (x2 * ((f_X12_hourOf x7 S) - x3))))), (5, .int (f_X12_higher x5 ((S 167 x7.toInt.toNat) - (x2 * ((f_X12_hourOf x7 S) - x3))))), (8, .int (x2 * ((f_X12_hourOf x7 S) - x3))), (0, .ref 100), (1, .int x1), (2, .int x2), (3, .int x3), (4, .int x4), (7, .int x7)] [.int ((S 169 x7.toInt.toNat) - (x2 * ((f_X12_hourOf x7 S) - x3))), .int (f_X12_higher x5 ((S 167 x7.toInt.toNat) - (x2 * ((f_X12_hourOf x7 S) - x3))))] S R _
                    refine u_cs (ac := [.int (f_X12_higher x5 ((S 167 x7.toInt.toNat) - (x2 * ((f_X12_hourOf x7 S) - x3)))), .int ((S 169 x7.toInt.toNat) - (x2 * ((f_X12_hourOf x7 S) - x3)))]) (rest := []) rfl (by decide) mt_X12_higher (fun _ => rfl) (Nat.le_of_ble_eq_true rfl) (Nat.le_of_ble_eq_true rfl) (fun d' => c_X12_higher L xs m d' (f_X12_higher x5 ((S 167 x7.toInt.toNat) - (x2 * ((f_X12_hourOf x7 S) - x3)))) ((S 169 x7.toInt.toNat) - (x2 * ((f_X12_hourOf x7 S) - x3))) S R) ?_
                    rintro _ _ _ ⟨_, rfl, rfl, rfl, rfl⟩
                    refine u_st rfl (fun _ => rfl) ?_
                    refine u_st rfl (fun _ => rfl) ?_
                    refine u_st rfl (fun _ => rfl) ?_
                    show u_P L xs m d m_X12_escaped 324 [(5, .int (f_X12_higher (f_X12_higher x5 ((S 167 x7.toInt.toNat) - (x2 * ((f_X12_hourOf x7 S) - x3)))) ((S 169 x7.toInt.toNat) - (x2 * ((f_X12_hourOf x7 S) - x3))))), (6, .int (f_X12_lower x6 ((S 168 x7.toInt.toNat) + (x2 * ((f_X12_hourOf x7 S) - x3))))), (8, .int (x2 * ((f_X12_hourOf x7 S) - x3))), (0, .ref 100), (1, .int x1), (2, .int x2), (3, .int x3), (4, .int x4), (7, .int x7)] [.ref 100, .int (f_X12_lower x6 ((S 168 x7.toInt.toNat) + (x2 * ((f_X12_hourOf x7 S) - x3))))] S R _
                    refine u_getr rfl v_tyM rfl ?_
                    refine u_st rfl (fun _ => rfl) ?_
                    show u_P L xs m d m_X12_escaped 329 [(5, .int (f_X12_higher (f_X12_higher x5 ((S 167 x7.toInt.toNat) - (x2 * ((f_X12_hourOf x7 S) - x3)))) ((S 169 x7.toInt.toNat) - (x2 * ((f_X12_hourOf x7 S) - x3))))), (6, .int (f_X12_lower x6 ((S 168 x7.toInt.toNat) + (x2 * ((f_X12_hourOf x7 S) - x3))))), (8, .int (x2 * ((f_X12_hourOf x7 S) - x3))), (0, .ref 100), (1, .int x1), (2, .int x2), (3, .int x3), (4, .int x4), (7, .int x7)] [.int x7, .ref 171, .int (f_X12_lower x6 ((S 168 x7.toInt.toNat) + (x2 * ((f_X12_hourOf x7 S) - x3))))] S R _
                    refine u_ialdE (v := S 170 x7.toInt.toNat) rfl rfl rfl (fun b371 b372 => ?_)
                    have hD := hD b371 b372
                    show u_P L xs m d m_X12_escaped 330 [(5, .int (f_X12_higher (f_X12_higher x5 ((S 167 x7.toInt.toNat) - (x2 * ((f_X12_hourOf x7 S) - x3)))) ((S 169 x7.toInt.toNat) - (x2 * ((f_X12_hourOf x7 S) - x3))))), (6, .int (f_X12_lower x6 ((S 168 x7.toInt.toNat) + (x2 * ((f_X12_hourOf x7 S) - x3))))), (8, .int (x2 * ((f_X12_hourOf x7 S) - x3))), (0, .ref 100), (1, .int x1), (2, .int x2), (3, .int x3), (4, .int x4), (7, .int x7)] [.int (S 170 x7.toInt.toNat), .int (f_X12_lower x6 ((S 168 x7.toInt.toNat) + (x2 * ((f_X12_hourOf x7 S) - x3))))] S R _
                    refine u_st rfl (fun _ => rfl) ?_
                    refine u_st rfl (fun _ => rfl) ?_
                    show u_P L xs m d m_X12_escaped 333 [(5, .int (f_X12_higher (f_X12_higher x5 ((S 167 x7.toInt.toNat) - (x2 * ((f_X12_hourOf x7 S) - x3)))) ((S 169 x7.toInt.toNat) - (x2 * ((f_X12_hourOf x7 S) - x3))))), (6, .int (f_X12_lower x6 ((S 168 x7.toInt.toNat) + (x2 * ((f_X12_hourOf x7 S) - x3))))), (8, .int (x2 * ((f_X12_hourOf x7 S) - x3))), (0, .ref 100), (1, .int x1), (2, .int x2), (3, .int x3), (4, .int x4), (7, .int x7)] [.int ((S 170 x7.toInt.toNat) + (x2 * ((f_X12_hourOf x7 S) - x3))), .int (f_X12_lower x6 ((S 168 x7.toInt.toNat) + (x2 * ((f_X12_hourOf x7 S) - x3))))] S R _
                    refine u_cs (ac := [.int (f_X12_lower x6 ((S 168 x7.toInt.toNat) + (x2 * ((f_X12_hourOf x7 S) - x3)))), .int ((S 170 x7.toInt.toNat) + (x2 * ((f_X12_hourOf x7 S) - x3)))]) (rest := []) rfl (by decide) mt_X12_lower (fun _ => rfl) (Nat.le_of_ble_eq_true rfl) (Nat.le_of_ble_eq_true rfl) (fun d' => c_X12_lower L xs m d' (f_X12_lower x6 ((S 168 x7.toInt.toNat) + (x2 * ((f_X12_hourOf x7 S) - x3)))) ((S 170 x7.toInt.toNat) + (x2 * ((f_X12_hourOf x7 S) - x3))) S R) ?_
                    rintro _ _ _ ⟨_, rfl, rfl, rfl, rfl⟩
                    refine u_st rfl (fun _ => rfl) ?_
                    refine u_st rfl (fun _ => rfl) ?_
                    refine u_st rfl (fun _ => rfl) ?_
                    refine u_lc (b := [(0, .ref 100), (1, .int x1), (2, .int x2), (3, .int x3), (4, .int x4), (5, .int (f_X12_higher (f_X12_higher x5 ((S 167 x7.toInt.toNat) - (x2 * ((f_X12_hourOf x7 S) - x3)))) ((S 169 x7.toInt.toNat) - (x2 * ((f_X12_hourOf x7 S) - x3))))), (6, .int (f_X12_lower (f_X12_lower x6 ((S 168 x7.toInt.toNat) + (x2 * ((f_X12_hourOf x7 S) - x3)))) ((S 170 x7.toInt.toNat) + (x2 * ((f_X12_hourOf x7 S) - x3))))), (7, .int (x7 + (Int32.ofInt 1))), (8, .int (x2 * ((f_X12_hourOf x7 S) - x3)))]) (show ([7, 6, 5, 8, 0, 1, 2, 3, 4] : List Nat).Nodup by decide) (show ([0, 1, 2, 3, 4, 5, 6, 7, 8] : List Nat).Nodup by decide) (fun i => match i with | 0 => rfl | 1 => rfl | 2 => rfl | 3 => rfl | 4 => rfl | 5 => rfl | 6 => rfl | 7 => rfl | 8 => rfl | _ + 9 => rfl) ?_
                    exact (ih m hm).2.2 d (x2 * ((f_X12_hourOf x7 S) - x3)) x1 x2 x3 x4 (f_X12_higher (f_X12_higher x5 ((S 167 x7.toInt.toNat) - (x2 * ((f_X12_hourOf x7 S) - x3)))) ((S 169 x7.toInt.toNat) - (x2 * ((f_X12_hourOf x7 S) - x3)))) (f_X12_lower (f_X12_lower x6 ((S 168 x7.toInt.toNat) + (x2 * ((f_X12_hourOf x7 S) - x3)))) ((S 170 x7.toInt.toNat) + (x2 * ((f_X12_hourOf x7 S) - x3)))) (x7 + (Int32.ofInt 1)) S hD
                  · have hD := hD.2 h35
                    show u_P L xs m d m_X12_escaped 292 [(6, .int (f_X12_lower x6 ((S 168 x7.toInt.toNat) + (x2 * ((f_X12_hourOf x7 S) - x3))))), (5, .int (f_X12_higher x5 ((S 167 x7.toInt.toNat) - (x2 * ((f_X12_hourOf x7 S) - x3))))), (8, .int (x2 * ((f_X12_hourOf x7 S) - x3))), (0, .ref 100), (1, .int x1), (2, .int x2), (3, .int x3), (4, .int x4), (7, .int x7)] [] S R _
                    refine u_st rfl (fun _ => rfl) ?_
                    refine u_st rfl (fun _ => rfl) ?_
                    refine u_st rfl (fun _ => rfl) ?_
                    refine u_st rfl (fun _ => rfl) ?_
                    show u_P L xs m d m_X12_escaped 297 [(6, .int (f_X12_lower x6 ((S 168 x7.toInt.toNat) + (x2 * ((f_X12_hourOf x7 S) - x3))))), (5, .int (f_X12_higher x5 ((S 167 x7.toInt.toNat) - (x2 * ((f_X12_hourOf x7 S) - x3))))), (8, .int (x2 * ((f_X12_hourOf x7 S) - x3))), (0, .ref 100), (1, .int x1), (2, .int x2), (3, .int x3), (4, .int x4), (7, .int x7)] [.int (x7 - (Int32.ofInt 1)), .ref 100] S R _
                    refine u_cv (rest := []) rfl (by decide) mt_X12_hourOf v_tyM rfl rfl rfl (Nat.le_of_ble_eq_true rfl) (Nat.le_of_ble_eq_true rfl) (Nat.le_of_ble_eq_true rfl) (fun d' => c_X12_hourOf L xs m d' (x7 - (Int32.ofInt 1)) S R) ?_
                    rintro _ _ _ ⟨_, rfl, rfl, rfl, rfl⟩
                    refine u_st rfl (fun _ => rfl) ?_
                    show u_P L xs m d m_X12_escaped 301 [(6, .int (f_X12_lower x6 ((S 168 x7.toInt.toNat) + (x2 * ((f_X12_hourOf x7 S) - x3))))), (5, .int (f_X12_higher x5 ((S 167 x7.toInt.toNat) - (x2 * ((f_X12_hourOf x7 S) - x3))))), (8, .int (x2 * ((f_X12_hourOf x7 S) - x3))), (0, .ref 100), (1, .int x1), (2, .int x2), (3, .int x3), (4, .int x4), (7, .int x7)] [.int x3, .int (f_X12_hourOf (x7 - (Int32.ofInt 1)) S)] S R _
                    refine u_ic_gt rfl (fun h38 => ?_) (fun h38 => ?_)
                    · have hD := hD.1 h38
                      show u_P L xs m d m_X12_escaped 338 [(6, .int (f_X12_lower x6 ((S 168 x7.toInt.toNat) + (x2 * ((f_X12_hourOf x7 S) - x3))))), (5, .int (f_X12_higher x5 ((S 167 x7.toInt.toNat) - (x2 * ((f_X12_hourOf x7 S) - x3))))), (8, .int (x2 * ((f_X12_hourOf x7 S) - x3))), (0, .ref 100), (1, .int x1), (2, .int x2), (3, .int x3), (4, .int x4), (7, .int x7)] [] S R _
                      refine u_st rfl (fun _ => rfl) ?_
                      refine u_st rfl (fun _ => rfl) ?_
                      refine u_lc (b := [(0, .ref 100), (1, .int x1), (2, .int x2), (3, .int x3), (4, .int x4), (5, .int (f_X12_higher x5 ((S 167 x7.toInt.toNat) - (x2 * ((f_X12_hourOf x7 S) - x3))))), (6, .int (f_X12_lower x6 ((S 168 x7.toInt.toNat) + (x2 * ((f_X12_hourOf x7 S) - x3))))), (7, .int (x7 + (Int32.ofInt 1))), (8, .int (x2 * ((f_X12_hourOf x7 S) - x3)))]) (show ([7, 6, 5, 8, 0, 1, 2, 3, 4] : List Nat).Nodup by decide) (show ([0, 1, 2, 3, 4, 5, 6, 7, 8] : List Nat).Nodup by decide) (fun i => match i with | 0 => rfl | 1 => rfl | 2 => rfl | 3 => rfl | 4 => rfl | 5 => rfl | 6 => rfl | 7 => rfl | 8 => rfl | _ + 9 => rfl) ?_
                      exact (ih m hm).2.2 d (x2 * ((f_X12_hourOf x7 S) - x3)) x1 x2 x3 x4 (f_X12_higher x5 ((S 167 x7.toInt.toNat) - (x2 * ((f_X12_hourOf x7 S) - x3)))) (f_X12_lower x6 ((S 168 x7.toInt.toNat) + (x2 * ((f_X12_hourOf x7 S) - x3)))) (x7 + (Int32.ofInt 1)) S hD
                    · have hD := hD.2 h38
                      show u_P L xs m d m_X12_escaped 304 [(6, .int (f_X12_lower x6 ((S 168 x7.toInt.toNat) + (x2 * ((f_X12_hourOf x7 S) - x3))))), (5, .int (f_X12_higher x5 ((S 167 x7.toInt.toNat) - (x2 * ((f_X12_hourOf x7 S) - x3))))), (8, .int (x2 * ((f_X12_hourOf x7 S) - x3))), (0, .ref 100), (1, .int x1), (2, .int x2), (3, .int x3), (4, .int x4), (7, .int x7)] [] S R _
                      refine u_st rfl (fun _ => rfl) ?_
                      refine u_st rfl (fun _ => rfl) ?_
                      show u_P L xs m d m_X12_escaped 307 [(6, .int (f_X12_lower x6 ((S 168 x7.toInt.toNat) + (x2 * ((f_X12_hourOf x7 S) - x3))))), (5, .int (f_X12_higher x5 ((S 167 x7.toInt.toNat) - (x2 * ((f_X12_hourOf x7 S) - x3))))), (8, .int (x2 * ((f_X12_hourOf x7 S) - x3))), (0, .ref 100), (1, .int x1), (2, .int x2), (3, .int x3), (4, .int x4), (7, .int x7)] [.ref 100, .int (f_X12_higher x5 ((S 167 x7.toInt.toNat) - (x2 * ((f_X12_hourOf x7 S) - x3))))] S R _
                      refine u_getr rfl v_tyM rfl ?_
                      refine u_st rfl (fun _ => rfl) ?_
                      show u_P L xs m d m_X12_escaped 312 [(6, .int (f_X12_lower x6 ((S 168 x7.toInt.toNat) + (x2 * ((f_X12_hourOf x7 S) - x3))))), (5, .int (f_X12_higher x5 ((S 167 x7.toInt.toNat) - (x2 * ((f_X12_hourOf x7 S) - x3))))), (8, .int (x2 * ((f_X12_hourOf x7 S) - x3))), (0, .ref 100), (1, .int x1), (2, .int x2), (3, .int x3), (4, .int x4), (7, .int x7)] [.int x7, .ref 170, .int (f_X12_higher x5 ((S 167 x7.toInt.toNat) - (x2 * ((f_X12_hourOf x7 S) - x3))))] S R _
                      refine u_ialdE (v := S 169 x7.toInt.toNat) rfl rfl rfl (fun b391 b392 => ?_)
                      have hD := hD b391 b392
                      show u_P L xs m d m_X12_escaped 313 [(6, .int (f_X12_lower x6 ((S 168 x7.toInt.toNat) + (x2 * ((f_X12_hourOf x7 S) - x3))))), (5, .int (f_X12_higher x5 ((S 167 x7.toInt.toNat) - (x2 * ((f_X12_hourOf x7 S) - x3))))), (8, .int (x2 * ((f_X12_hourOf x7 S) - x3))), (0, .ref 100), (1, .int x1), (2, .int x2), (3, .int x3), (4, .int x4), (7, .int x7)] [.int (S 169 x7.toInt.toNat), .int (f_X12_higher x5 ((S 167 x7.toInt.toNat) - (x2 * ((f_X12_hourOf x7 S) - x3))))] S R _
                      refine u_st rfl (fun _ => rfl) ?_
                      refine u_st rfl (fun _ => rfl) ?_
                      show u_P L xs m d m_X12_escaped 316 [(6, .int (f_X12_lower x6 ((S 168 x7.toInt.toNat) + (x2 * ((f_X12_hourOf x7 S) - x3))))), (5, .int (f_X12_higher x5 ((S 167 x7.toInt.toNat) - (x2 * ((f_X12_hourOf x7 S) - x3))))), (8, .int (x2 * ((f_X12_hourOf x7 S) - x3))), (0, .ref 100), (1, .int x1), (2, .int x2), (3, .int x3), (4, .int x4), (7, .int x7)] [.int ((S 169 x7.toInt.toNat) - (x2 * ((f_X12_hourOf x7 S) - x3))), .int (f_X12_higher x5 ((S 167 x7.toInt.toNat) - (x2 * ((f_X12_hourOf x7 S) - x3))))] S R _
                      refine u_cs (ac := [.int (f_X12_higher x5 ((S 167 x7.toInt.toNat) - (x2 * ((f_X12_hourOf x7 S) - x3)))), .int ((S 169 x7.toInt.toNat) - (x2 * ((f_X12_hourOf x7 S) - x3)))]) (rest := []) rfl (by decide) mt_X12_higher (fun _ => rfl) (Nat.le_of_ble_eq_true rfl) (Nat.le_of_ble_eq_true rfl) (fun d' => c_X12_higher L xs m d' (f_X12_higher x5 ((S 167 x7.toInt.toNat) - (x2 * ((f_X12_hourOf x7 S) - x3)))) ((S 169 x7.toInt.toNat) - (x2 * ((f_X12_hourOf x7 S) - x3))) S R) ?_
                      rintro _ _ _ ⟨_, rfl, rfl, rfl, rfl⟩
                      refine u_st rfl (fun _ => rfl) ?_
                      refine u_st rfl (fun _ => rfl) ?_
                      refine u_st rfl (fun _ => rfl) ?_
                      show u_P L xs m d m_X12_escaped 324 [(5, .int (f_X12_higher (f_X12_higher x5 ((S 167 x7.toInt.toNat) - (x2 * ((f_X12_hourOf x7 S) - x3)))) ((S 169 x7.toInt.toNat) - (x2 * ((f_X12_hourOf x7 S) - x3))))), (6, .int (f_X12_lower x6 ((S 168 x7.toInt.toNat) + (x2 * ((f_X12_hourOf x7 S) - x3))))), (8, .int (x2 * ((f_X12_hourOf x7 S) - x3))), (0, .ref 100), (1, .int x1), (2, .int x2), (3, .int x3), (4, .int x4), (7, .int x7)] [.ref 100, .int (f_X12_lower x6 ((S 168 x7.toInt.toNat) + (x2 * ((f_X12_hourOf x7 S) - x3))))] S R _
                      refine u_getr rfl v_tyM rfl ?_
                      refine u_st rfl (fun _ => rfl) ?_
                      show u_P L xs m d m_X12_escaped 329 [(5, .int (f_X12_higher (f_X12_higher x5 ((S 167 x7.toInt.toNat) - (x2 * ((f_X12_hourOf x7 S) - x3)))) ((S 169 x7.toInt.toNat) - (x2 * ((f_X12_hourOf x7 S) - x3))))), (6, .int (f_X12_lower x6 ((S 168 x7.toInt.toNat) + (x2 * ((f_X12_hourOf x7 S) - x3))))), (8, .int (x2 * ((f_X12_hourOf x7 S) - x3))), (0, .ref 100), (1, .int x1), (2, .int x2), (3, .int x3), (4, .int x4), (7, .int x7)] [.int x7, .ref 171, .int (f_X12_lower x6 ((S 168 x7.toInt.toNat) + (x2 * ((f_X12_hourOf x7 S) - x3))))] S R _
                      refine u_ialdE (v := S 170 x7.toInt.toNat) rfl rfl rfl (fun b401 b402 => ?_)
                      have hD := hD b401 b402
                      show u_P L xs m d m_X12_escaped 330 [(5, .int (f_X12_higher (f_X12_higher x5 ((S 167 x7.toInt.toNat) - (x2 * ((f_X12_hourOf x7 S) - x3)))) ((S 169 x7.toInt.toNat) - (x2 * ((f_X12_hourOf x7 S) - x3))))), (6, .int (f_X12_lower x6 ((S 168 x7.toInt.toNat) + (x2 * ((f_X12_hourOf x7 S) - x3))))), (8, .int (x2 * ((f_X12_hourOf x7 S) - x3))), (0, .ref 100), (1, .int x1), (2, .int x2), (3, .int x3), (4, .int x4), (7, .int x7)] [.int (S 170 x7.toInt.toNat), .int (f_X12_lower x6 ((S 168 x7.toInt.toNat) + (x2 * ((f_X12_hourOf x7 S) - x3))))] S R _
                      refine u_st rfl (fun _ => rfl) ?_
                      refine u_st rfl (fun _ => rfl) ?_
                      show u_P L xs m d m_X12_escaped 333 [(5, .int (f_X12_higher (f_X12_higher x5 ((S 167 x7.toInt.toNat) - (x2 * ((f_X12_hourOf x7 S) - x3)))) ((S 169 x7.toInt.toNat) - (x2 * ((f_X12_hourOf x7 S) - x3))))), (6, .int (f_X12_lower x6 ((S 168 x7.toInt.toNat) + (x2 * ((f_X12_hourOf x7 S) - x3))))), (8, .int (x2 * ((f_X12_hourOf x7 S) - x3))), (0, .ref 100), (1, .int x1), (2, .int x2), (3, .int x3), (4, .int x4), (7, .int x7)] [.int ((S 170 x7.toInt.toNat) + (x2 * ((f_X12_hourOf x7 S) - x3))), .int (f_X12_lower x6 ((S 168 x7.toInt.toNat) + (x2 * ((f_X12_hourOf x7 S) - x3))))] S R _
                      refine u_cs (ac := [.int (f_X12_lower x6 ((S 168 x7.toInt.toNat) + (x2 * ((f_X12_hourOf x7 S) - x3)))), .int ((S 170 x7.toInt.toNat) + (x2 * ((f_X12_hourOf x7 S) - x3)))]) (rest := []) rfl (by decide) mt_X12_lower (fun _ => rfl) (Nat.le_of_ble_eq_true rfl) (Nat.le_of_ble_eq_true rfl) (fun d' => c_X12_lower L xs m d' (f_X12_lower x6 ((S 168 x7.toInt.toNat) + (x2 * ((f_X12_hourOf x7 S) - x3)))) ((S 170 x7.toInt.toNat) + (x2 * ((f_X12_hourOf x7 S) - x3))) S R) ?_
                      rintro _ _ _ ⟨_, rfl, rfl, rfl, rfl⟩
                      refine u_st rfl (fun _ => rfl) ?_
                      refine u_st rfl (fun _ => rfl) ?_
                      refine u_st rfl (fun _ => rfl) ?_
                      refine u_lc (b := [(0, .ref 100), (1, .int x1), (2, .int x2), (3, .int x3), (4, .int x4), (5, .int (f_X12_higher (f_X12_higher x5 ((S 167 x7.toInt.toNat) - (x2 * ((f_X12_hourOf x7 S) - x3)))) ((S 169 x7.toInt.toNat) - (x2 * ((f_X12_hourOf x7 S) - x3))))), (6, .int (f_X12_lower (f_X12_lower x6 ((S 168 x7.toInt.toNat) + (x2 * ((f_X12_hourOf x7 S) - x3)))) ((S 170 x7.toInt.toNat) + (x2 * ((f_X12_hourOf x7 S) - x3))))), (7, .int (x7 + (Int32.ofInt 1))), (8, .int (x2 * ((f_X12_hourOf x7 S) - x3)))]) (show ([7, 6, 5, 8, 0, 1, 2, 3, 4] : List Nat).Nodup by decide) (show ([0, 1, 2, 3, 4, 5, 6, 7, 8] : List Nat).Nodup by decide) (fun i => match i with | 0 => rfl | 1 => rfl | 2 => rfl | 3 => rfl | 4 => rfl | 5 => rfl | 6 => rfl | 7 => rfl | 8 => rfl | _ + 9 => rfl) ?_
                      exact (ih m hm).2.2 d (x2 * ((f_X12_hourOf x7 S) - x3)) x1 x2 x3 x4 (f_X12_higher (f_X12_higher x5 ((S 167 x7.toInt.toNat) - (x2 * ((f_X12_hourOf x7 S) - x3)))) ((S 169 x7.toInt.toNat) - (x2 * ((f_X12_hourOf x7 S) - x3)))) (f_X12_lower (f_X12_lower x6 ((S 168 x7.toInt.toNat) + (x2 * ((f_X12_hourOf x7 S) - x3)))) ((S 170 x7.toInt.toNat) + (x2 * ((f_X12_hourOf x7 S) - x3)))) (x7 + (Int32.ofInt 1)) S hD
        · have hD := hD.2 h5
          show u_P L xs m d m_X12_escaped 191 [(0, .ref 100), (1, .int x1), (2, .int x2), (3, .int x3), (4, .int x4), (5, .int x5), (6, .int x6), (7, .int x7)] [.int x2] S R _
          refine u_st rfl (fun _ => rfl) ?_
          refine u_st rfl (fun _ => rfl) ?_
          refine u_st rfl (fun _ => rfl) ?_
          show u_P L xs m d m_X12_escaped 195 [(0, .ref 100), (1, .int x1), (2, .int x2), (3, .int x3), (4, .int x4), (5, .int x5), (6, .int x6), (7, .int x7)] [.int x7, .ref 100, .int x3, .int x2] S R _
          refine u_cv (rest := [.int x3, .int x2]) rfl (by decide) mt_X12_hourOf v_tyM rfl rfl rfl (Nat.le_of_ble_eq_true rfl) (Nat.le_of_ble_eq_true rfl) (Nat.le_of_ble_eq_true rfl) (fun d' => c_X12_hourOf L xs m d' x7 S R) ?_
          rintro _ _ _ ⟨_, rfl, rfl, rfl, rfl⟩
          refine u_st rfl (fun _ => rfl) ?_
          refine u_st rfl (fun _ => rfl) ?_
          refine u_st rfl (fun _ => rfl) ?_
          refine u_st rfl (fun _ => rfl) ?_
          refine u_st rfl (fun _ => rfl) ?_
          refine u_st rfl (fun _ => rfl) ?_
          show u_P L xs m d m_X12_escaped 216 [(8, .int (x2 * (x3 - (f_X12_hourOf x7 S)))), (0, .ref 100), (1, .int x1), (2, .int x2), (3, .int x3), (4, .int x4), (5, .int x5), (6, .int x6), (7, .int x7)] [.int x7, .ref 100] S R _
          refine u_cv (rest := []) rfl (by decide) mt_X12_hourOf v_tyM rfl rfl rfl (Nat.le_of_ble_eq_true rfl) (Nat.le_of_ble_eq_true rfl) (Nat.le_of_ble_eq_true rfl) (fun d' => c_X12_hourOf L xs m d' x7 S R) ?_
          rintro _ _ _ ⟨_, rfl, rfl, rfl, rfl⟩
          refine u_st rfl (fun _ => rfl) ?_
          show u_P L xs m d m_X12_escaped 220 [(8, .int (x2 * (x3 - (f_X12_hourOf x7 S)))), (0, .ref 100), (1, .int x1), (2, .int x2), (3, .int x3), (4, .int x4), (5, .int x5), (6, .int x6), (7, .int x7)] [.int x3, .int (f_X12_hourOf x7 S)] S R _
          refine u_ic_gt rfl (fun h41 => ?_) (fun h41 => ?_)
          · have hD := hD.1 h41
            show u_P L xs m d m_X12_escaped 277 [(8, .int (x2 * (x3 - (f_X12_hourOf x7 S)))), (0, .ref 100), (1, .int x1), (2, .int x2), (3, .int x3), (4, .int x4), (5, .int x5), (6, .int x6), (7, .int x7)] [] S R _
            refine u_st rfl (fun _ => rfl) ?_
            refine u_st rfl (fun _ => rfl) ?_
            show u_P L xs m d m_X12_escaped 280 [(8, .int (x2 * (x3 - (f_X12_hourOf x7 S)))), (0, .ref 100), (1, .int x1), (2, .int x2), (3, .int x3), (4, .int x4), (5, .int x5), (6, .int x6), (7, .int x7)] [.int x7, .ref 100] S R _
            refine u_cv (rest := []) rfl (by decide) mt_X12_hourOf v_tyM rfl rfl rfl (Nat.le_of_ble_eq_true rfl) (Nat.le_of_ble_eq_true rfl) (Nat.le_of_ble_eq_true rfl) (fun d' => c_X12_hourOf L xs m d' x7 S R) ?_
            rintro _ _ _ ⟨_, rfl, rfl, rfl, rfl⟩
            refine u_st rfl (fun _ => rfl) ?_
            show u_P L xs m d m_X12_escaped 284 [(8, .int (x2 * (x3 - (f_X12_hourOf x7 S)))), (0, .ref 100), (1, .int x1), (2, .int x2), (3, .int x3), (4, .int x4), (5, .int x5), (6, .int x6), (7, .int x7)] [.int x3, .int (f_X12_hourOf x7 S)] S R _
            refine u_ic_le rfl (fun h42 => ?_) (fun h42 => ?_)
            · have hD := hD.1 h42
              show u_P L xs m d m_X12_escaped 338 [(8, .int (x2 * (x3 - (f_X12_hourOf x7 S)))), (0, .ref 100), (1, .int x1), (2, .int x2), (3, .int x3), (4, .int x4), (5, .int x5), (6, .int x6), (7, .int x7)] [] S R _
              refine u_st rfl (fun _ => rfl) ?_
              refine u_st rfl (fun _ => rfl) ?_
              refine u_lc (b := [(0, .ref 100), (1, .int x1), (2, .int x2), (3, .int x3), (4, .int x4), (5, .int x5), (6, .int x6), (7, .int (x7 + (Int32.ofInt 1))), (8, .int (x2 * (x3 - (f_X12_hourOf x7 S))))]) (show ([7, 8, 0, 1, 2, 3, 4, 5, 6] : List Nat).Nodup by decide) (show ([0, 1, 2, 3, 4, 5, 6, 7, 8] : List Nat).Nodup by decide) (fun i => match i with | 0 => rfl | 1 => rfl | 2 => rfl | 3 => rfl | 4 => rfl | 5 => rfl | 6 => rfl | 7 => rfl | 8 => rfl | _ + 9 => rfl) ?_
              exact (ih m hm).2.2 d (x2 * (x3 - (f_X12_hourOf x7 S))) x1 x2 x3 x4 x5 x6 (x7 + (Int32.ofInt 1)) S hD
            · have hD := hD.2 h42
              show u_P L xs m d m_X12_escaped 287 [(8, .int (x2 * (x3 - (f_X12_hourOf x7 S)))), (0, .ref 100), (1, .int x1), (2, .int x2), (3, .int x3), (4, .int x4), (5, .int x5), (6, .int x6), (7, .int x7)] [] S R _
              refine u_st rfl (fun _ => rfl) ?_
              show u_P L xs m d m_X12_escaped 289 [(8, .int (x2 * (x3 - (f_X12_hourOf x7 S)))), (0, .ref 100), (1, .int x1), (2, .int x2), (3, .int x3), (4, .int x4), (5, .int x5), (6, .int x6), (7, .int x7)] [.int x7] S R _
              refine u_if_eq rfl (fun h43 => ?_) (fun h43 => ?_)
              · have hD := hD.1 h43
                show u_P L xs m d m_X12_escaped 304 [(8, .int (x2 * (x3 - (f_X12_hourOf x7 S)))), (0, .ref 100), (1, .int x1), (2, .int x2), (3, .int x3), (4, .int x4), (5, .int x5), (6, .int x6), (7, .int x7)] [] S R _
                refine u_st rfl (fun _ => rfl) ?_
                refine u_st rfl (fun _ => rfl) ?_
                show u_P L xs m d m_X12_escaped 307 [(8, .int (x2 * (x3 - (f_X12_hourOf x7 S)))), (0, .ref 100), (1, .int x1), (2, .int x2), (3, .int x3), (4, .int x4), (5, .int x5), (6, .int x6), (7, .int x7)] [.ref 100, .int x5] S R _
                refine u_getr rfl v_tyM rfl ?_
                refine u_st rfl (fun _ => rfl) ?_
                show u_P L xs m d m_X12_escaped 312 [(8, .int (x2 * (x3 - (f_X12_hourOf x7 S)))), (0, .ref 100), (1, .int x1), (2, .int x2), (3, .int x3), (4, .int x4), (5, .int x5), (6, .int x6), (7, .int x7)] [.int x7, .ref 170, .int x5] S R _
                refine u_ialdE (v := S 169 x7.toInt.toNat) rfl rfl rfl (fun b441 b442 => ?_)
                have hD := hD b441 b442
                show u_P L xs m d m_X12_escaped 313 [(8, .int (x2 * (x3 - (f_X12_hourOf x7 S)))), (0, .ref 100), (1, .int x1), (2, .int x2), (3, .int x3), (4, .int x4), (5, .int x5), (6, .int x6), (7, .int x7)] [.int (S 169 x7.toInt.toNat), .int x5] S R _
                refine u_st rfl (fun _ => rfl) ?_
                refine u_st rfl (fun _ => rfl) ?_
                show u_P L xs m d m_X12_escaped 316 [(8, .int (x2 * (x3 - (f_X12_hourOf x7 S)))), (0, .ref 100), (1, .int x1), (2, .int x2), (3, .int x3), (4, .int x4), (5, .int x5), (6, .int x6), (7, .int x7)] [.int ((S 169 x7.toInt.toNat) - (x2 * (x3 - (f_X12_hourOf x7 S)))), .int x5] S R _
                refine u_cs (ac := [.int x5, .int ((S 169 x7.toInt.toNat) - (x2 * (x3 - (f_X12_hourOf x7 S))))]) (rest := []) rfl (by decide) mt_X12_higher (fun _ => rfl) (Nat.le_of_ble_eq_true rfl) (Nat.le_of_ble_eq_true rfl) (fun d' => c_X12_higher L xs m d' x5 ((S 169 x7.toInt.toNat) - (x2 * (x3 - (f_X12_hourOf x7 S)))) S R) ?_
                rintro _ _ _ ⟨_, rfl, rfl, rfl, rfl⟩
                refine u_st rfl (fun _ => rfl) ?_
                refine u_st rfl (fun _ => rfl) ?_
                refine u_st rfl (fun _ => rfl) ?_
                show u_P L xs m d m_X12_escaped 324 [(5, .int (f_X12_higher x5 ((S 169 x7.toInt.toNat) - (x2 * (x3 - (f_X12_hourOf x7 S)))))), (8, .int (x2 * (x3 - (f_X12_hourOf x7 S)))), (0, .ref 100), (1, .int x1), (2, .int x2), (3, .int x3), (4, .int x4), (6, .int x6), (7, .int x7)] [.ref 100, .int x6] S R _
                refine u_getr rfl v_tyM rfl ?_
                refine u_st rfl (fun _ => rfl) ?_
                show u_P L xs m d m_X12_escaped 329 [(5, .int (f_X12_higher x5 ((S 169 x7.toInt.toNat) - (x2 * (x3 - (f_X12_hourOf x7 S)))))), (8, .int (x2 * (x3 - (f_X12_hourOf x7 S)))), (0, .ref 100), (1, .int x1), (2, .int x2), (3, .int x3), (4, .int x4), (6, .int x6), (7, .int x7)] [.int x7, .ref 171, .int x6] S R _
                refine u_ialdE (v := S 170 x7.toInt.toNat) rfl rfl rfl (fun b451 b452 => ?_)
                have hD := hD b451 b452
                show u_P L xs m d m_X12_escaped 330 [(5, .int (f_X12_higher x5 ((S 169 x7.toInt.toNat) - (x2 * (x3 - (f_X12_hourOf x7 S)))))), (8, .int (x2 * (x3 - (f_X12_hourOf x7 S)))), (0, .ref 100), (1, .int x1), (2, .int x2), (3, .int x3), (4, .int x4), (6, .int x6), (7, .int x7)] [.int (S 170 x7.toInt.toNat), .int x6] S R _
                refine u_st rfl (fun _ => rfl) ?_
                refine u_st rfl (fun _ => rfl) ?_
                show u_P L xs m d m_X12_escaped 333 [(5, .int (f_X12_higher x5 ((S 169 x7.toInt.toNat) - (x2 * (x3 - (f_X12_hourOf x7 S)))))), (8, .int (x2 * (x3 - (f_X12_hourOf x7 S)))), (0, .ref 100), (1, .int x1), (2, .int x2), (3, .int x3), (4, .int x4), (6, .int x6), (7, .int x7)] [.int ((S 170 x7.toInt.toNat) + (x2 * (x3 - (f_X12_hourOf x7 S)))), .int x6] S R _
                refine u_cs (ac := [.int x6, .int ((S 170 x7.toInt.toNat) + (x2 * (x3 - (f_X12_hourOf x7 S))))]) (rest := []) rfl (by decide) mt_X12_lower (fun _ => rfl) (Nat.le_of_ble_eq_true rfl) (Nat.le_of_ble_eq_true rfl) (fun d' => c_X12_lower L xs m d' x6 ((S 170 x7.toInt.toNat) + (x2 * (x3 - (f_X12_hourOf x7 S)))) S R) ?_
                rintro _ _ _ ⟨_, rfl, rfl, rfl, rfl⟩
                refine u_st rfl (fun _ => rfl) ?_
                refine u_st rfl (fun _ => rfl) ?_
                refine u_st rfl (fun _ => rfl) ?_
                refine u_lc (b := [(0, .ref 100), (1, .int x1), (2, .int x2), (3, .int x3), (4, .int x4), (5, .int (f_X12_higher x5 ((S 169 x7.toInt.toNat) - (x2 * (x3 - (f_X12_hourOf x7 S)))))), (6, .int (f_X12_lower x6 ((S 170 x7.toInt.toNat) + (x2 * (x3 - (f_X12_hourOf x7 S)))))), (7, .int (x7 + (Int32.ofInt 1))), (8, .int (x2 * (x3 - (f_X12_hourOf x7 S))))]) (show ([7, 6, 5, 8, 0, 1, 2, 3, 4] : List Nat).Nodup by decide) (show ([0, 1, 2, 3, 4, 5, 6, 7, 8] : List Nat).Nodup by decide) (fun i => match i with | 0 => rfl | 1 => rfl | 2 => rfl | 3 => rfl | 4 => rfl | 5 => rfl | 6 => rfl | 7 => rfl | 8 => rfl | _ + 9 => rfl) ?_
                exact (ih m hm).2.2 d (x2 * (x3 - (f_X12_hourOf x7 S))) x1 x2 x3 x4 (f_X12_higher x5 ((S 169 x7.toInt.toNat) - (x2 * (x3 - (f_X12_hourOf x7 S))))) (f_X12_lower x6 ((S 170 x7.toInt.toNat) + (x2 * (x3 - (f_X12_hourOf x7 S))))) (x7 + (Int32.ofInt 1)) S hD
              · have hD := hD.2 h43
                show u_P L xs m d m_X12_escaped 292 [(8, .int (x2 * (x3 - (f_X12_hourOf x7 S)))), (0, .ref 100), (1, .int x1), (2, .int x2), (3, .int x3), (4, .int x4), (5, .int x5), (6, .int x6), (7, .int x7)] [] S R _
                refine u_st rfl (fun _ => rfl) ?_
                refine u_st rfl (fun _ => rfl) ?_
                refine u_st rfl (fun _ => rfl) ?_
                refine u_st rfl (fun _ => rfl) ?_
                show u_P L xs m d m_X12_escaped 297 [(8, .int (x2 * (x3 - (f_X12_hourOf x7 S)))), (0, .ref 100), (1, .int x1), (2, .int x2), (3, .int x3), (4, .int x4), (5, .int x5), (6, .int x6), (7, .int x7)] [.int (x7 - (Int32.ofInt 1)), .ref 100] S R _
                refine u_cv (rest := []) rfl (by decide) mt_X12_hourOf v_tyM rfl rfl rfl (Nat.le_of_ble_eq_true rfl) (Nat.le_of_ble_eq_true rfl) (Nat.le_of_ble_eq_true rfl) (fun d' => c_X12_hourOf L xs m d' (x7 - (Int32.ofInt 1)) S R) ?_
                rintro _ _ _ ⟨_, rfl, rfl, rfl, rfl⟩
                refine u_st rfl (fun _ => rfl) ?_
                show u_P L xs m d m_X12_escaped 301 [(8, .int (x2 * (x3 - (f_X12_hourOf x7 S)))), (0, .ref 100), (1, .int x1), (2, .int x2), (3, .int x3), (4, .int x4), (5, .int x5), (6, .int x6), (7, .int x7)] [.int x3, .int (f_X12_hourOf (x7 - (Int32.ofInt 1)) S)] S R _
                refine u_ic_gt rfl (fun h46 => ?_) (fun h46 => ?_)
                · have hD := hD.1 h46
                  show u_P L xs m d m_X12_escaped 338 [(8, .int (x2 * (x3 - (f_X12_hourOf x7 S)))), (0, .ref 100), (1, .int x1), (2, .int x2), (3, .int x3), (4, .int x4), (5, .int x5), (6, .int x6), (7, .int x7)] [] S R _
                  refine u_st rfl (fun _ => rfl) ?_
                  refine u_st rfl (fun _ => rfl) ?_
                  refine u_lc (b := [(0, .ref 100), (1, .int x1), (2, .int x2), (3, .int x3), (4, .int x4), (5, .int x5), (6, .int x6), (7, .int (x7 + (Int32.ofInt 1))), (8, .int (x2 * (x3 - (f_X12_hourOf x7 S))))]) (show ([7, 8, 0, 1, 2, 3, 4, 5, 6] : List Nat).Nodup by decide) (show ([0, 1, 2, 3, 4, 5, 6, 7, 8] : List Nat).Nodup by decide) (fun i => match i with | 0 => rfl | 1 => rfl | 2 => rfl | 3 => rfl | 4 => rfl | 5 => rfl | 6 => rfl | 7 => rfl | 8 => rfl | _ + 9 => rfl) ?_
                  exact (ih m hm).2.2 d (x2 * (x3 - (f_X12_hourOf x7 S))) x1 x2 x3 x4 x5 x6 (x7 + (Int32.ofInt 1)) S hD
                · have hD := hD.2 h46
                  show u_P L xs m d m_X12_escaped 304 [(8, .int (x2 * (x3 - (f_X12_hourOf x7 S)))), (0, .ref 100), (1, .int x1), (2, .int x2), (3, .int x3), (4, .int x4), (5, .int x5), (6, .int x6), (7, .int x7)] [] S R _
                  refine u_st rfl (fun _ => rfl) ?_
                  refine u_st rfl (fun _ => rfl) ?_
                  show u_P L xs m d m_X12_escaped 307 [(8, .int (x2 * (x3 - (f_X12_hourOf x7 S)))), (0, .ref 100), (1, .int x1), (2, .int x2), (3, .int x3), (4, .int x4), (5, .int x5), (6, .int x6), (7, .int x7)] [.ref 100, .int x5] S R _
                  refine u_getr rfl v_tyM rfl ?_
                  refine u_st rfl (fun _ => rfl) ?_
                  show u_P L xs m d m_X12_escaped 312 [(8, .int (x2 * (x3 - (f_X12_hourOf x7 S)))), (0, .ref 100), (1, .int x1), (2, .int x2), (3, .int x3), (4, .int x4), (5, .int x5), (6, .int x6), (7, .int x7)] [.int x7, .ref 170, .int x5] S R _
                  refine u_ialdE (v := S 169 x7.toInt.toNat) rfl rfl rfl (fun b471 b472 => ?_)
                  have hD := hD b471 b472
                  show u_P L xs m d m_X12_escaped 313 [(8, .int (x2 * (x3 - (f_X12_hourOf x7 S)))), (0, .ref 100), (1, .int x1), (2, .int x2), (3, .int x3), (4, .int x4), (5, .int x5), (6, .int x6), (7, .int x7)] [.int (S 169 x7.toInt.toNat), .int x5] S R _
                  refine u_st rfl (fun _ => rfl) ?_
                  refine u_st rfl (fun _ => rfl) ?_
                  show u_P L xs m d m_X12_escaped 316 [(8, .int (x2 * (x3 - (f_X12_hourOf x7 S)))), (0, .ref 100), (1, .int x1), (2, .int x2), (3, .int x3), (4, .int x4), (5, .int x5), (6, .int x6), (7, .int x7)] [.int ((S 169 x7.toInt.toNat) - (x2 * (x3 - (f_X12_hourOf x7 S)))), .int x5] S R _
                  refine u_cs (ac := [.int x5, .int ((S 169 x7.toInt.toNat) - (x2 * (x3 - (f_X12_hourOf x7 S))))]) (rest := []) rfl (by decide) mt_X12_higher (fun _ => rfl) (Nat.le_of_ble_eq_true rfl) (Nat.le_of_ble_eq_true rfl) (fun d' => c_X12_higher L xs m d' x5 ((S 169 x7.toInt.toNat) - (x2 * (x3 - (f_X12_hourOf x7 S)))) S R) ?_
                  rintro _ _ _ ⟨_, rfl, rfl, rfl, rfl⟩
                  refine u_st rfl (fun _ => rfl) ?_
                  refine u_st rfl (fun _ => rfl) ?_
                  refine u_st rfl (fun _ => rfl) ?_
                  show u_P L xs m d m_X12_escaped 324 [(5, .int (f_X12_higher x5 ((S 169 x7.toInt.toNat) - (x2 * (x3 - (f_X12_hourOf x7 S)))))), (8, .int (x2 * (x3 - (f_X12_hourOf x7 S)))), (0, .ref 100), (1, .int x1), (2, .int x2), (3, .int x3), (4, .int x4), (6, .int x6), (7, .int x7)] [.ref 100, .int x6] S R _
                  refine u_getr rfl v_tyM rfl ?_
                  refine u_st rfl (fun _ => rfl) ?_
                  show u_P L xs m d m_X12_escaped 329 [(5, .int (f_X12_higher x5 ((S 169 x7.toInt.toNat) - (x2 * (x3 - (f_X12_hourOf x7 S)))))), (8, .int (x2 * (x3 - (f_X12_hourOf x7 S)))), (0, .ref 100), (1, .int x1), (2, .int x2), (3, .int x3), (4, .int x4), (6, .int x6), (7, .int x7)] [.int x7, .ref 171, .int x6] S R _
                  refine u_ialdE (v := S 170 x7.toInt.toNat) rfl rfl rfl (fun b481 b482 => ?_)
                  have hD := hD b481 b482
                  show u_P L xs m d m_X12_escaped 330 [(5, .int (f_X12_higher x5 ((S 169 x7.toInt.toNat) - (x2 * (x3 - (f_X12_hourOf x7 S)))))), (8, .int (x2 * (x3 - (f_X12_hourOf x7 S)))), (0, .ref 100), (1, .int x1), (2, .int x2), (3, .int x3), (4, .int x4), (6, .int x6), (7, .int x7)] [.int (S 170 x7.toInt.toNat), .int x6] S R _
                  refine u_st rfl (fun _ => rfl) ?_
                  refine u_st rfl (fun _ => rfl) ?_
                  show u_P L xs m d m_X12_escaped 333 [(5, .int (f_X12_higher x5 ((S 169 x7.toInt.toNat) - (x2 * (x3 - (f_X12_hourOf x7 S)))))), (8, .int (x2 * (x3 - (f_X12_hourOf x7 S)))), (0, .ref 100), (1, .int x1), (2, .int x2), (3, .int x3), (4, .int x4), (6, .int x6), (7, .int x7)] [.int ((S 170 x7.toInt.toNat) + (x2 * (x3 - (f_X12_hourOf x7 S)))), .int x6] S R _
                  refine u_cs (ac := [.int x6, .int ((S 170 x7.toInt.toNat) + (x2 * (x3 - (f_X12_hourOf x7 S))))]) (rest := []) rfl (by decide) mt_X12_lower (fun _ => rfl) (Nat.le_of_ble_eq_true rfl) (Nat.le_of_ble_eq_true rfl) (fun d' => c_X12_lower L xs m d' x6 ((S 170 x7.toInt.toNat) + (x2 * (x3 - (f_X12_hourOf x7 S)))) S R) ?_
                  rintro _ _ _ ⟨_, rfl, rfl, rfl, rfl⟩
                  refine u_st rfl (fun _ => rfl) ?_
                  refine u_st rfl (fun _ => rfl) ?_
                  refine u_st rfl (fun _ => rfl) ?_
                  refine u_lc (b := [(0, .ref 100), (1, .int x1), (2, .int x2), (3, .int x3), (4, .int x4), (5, .int (f_X12_higher x5 ((S 169 x7.toInt.toNat) - (x2 * (x3 - (f_X12_hourOf x7 S)))))), (6, .int (f_X12_lower x6 ((S 170 x7.toInt.toNat) + (x2 * (x3 - (f_X12_hourOf x7 S)))))), (7, .int (x7 + (Int32.ofInt 1))), (8, .int (x2 * (x3 - (f_X12_hourOf x7 S))))]) (show ([7, 6, 5, 8, 0, 1, 2, 3, 4] : List Nat).Nodup by decide) (show ([0, 1, 2, 3, 4, 5, 6, 7, 8] : List Nat).Nodup by decide) (fun i => match i with | 0 => rfl | 1 => rfl | 2 => rfl | 3 => rfl | 4 => rfl | 5 => rfl | 6 => rfl | 7 => rfl | 8 => rfl | _ + 9 => rfl) ?_
                  exact (ih m hm).2.2 d (x2 * (x3 - (f_X12_hourOf x7 S))) x1 x2 x3 x4 (f_X12_higher x5 ((S 169 x7.toInt.toNat) - (x2 * (x3 - (f_X12_hourOf x7 S))))) (f_X12_lower x6 ((S 170 x7.toInt.toNat) + (x2 * (x3 - (f_X12_hourOf x7 S))))) (x7 + (Int32.ofInt 1)) S hD
          · have hD := hD.2 h41
            show u_P L xs m d m_X12_escaped 223 [(8, .int (x2 * (x3 - (f_X12_hourOf x7 S)))), (0, .ref 100), (1, .int x1), (2, .int x2), (3, .int x3), (4, .int x4), (5, .int x5), (6, .int x6), (7, .int x7)] [] S R _
            refine u_st rfl (fun _ => rfl) ?_
            refine u_st rfl (fun _ => rfl) ?_
            refine u_st rfl (fun _ => rfl) ?_
            refine u_st rfl (fun _ => rfl) ?_
            show u_P L xs m d m_X12_escaped 228 [(8, .int (x2 * (x3 - (f_X12_hourOf x7 S)))), (0, .ref 100), (1, .int x1), (2, .int x2), (3, .int x3), (4, .int x4), (5, .int x5), (6, .int x6), (7, .int x7)] [.int x1, .int (x7 + (Int32.ofInt 1))] S R _
            refine u_ic_eq rfl (fun h49 => ?_) (fun h49 => ?_)
            · have hD := hD.1 h49
              show u_P L xs m d m_X12_escaped 243 [(8, .int (x2 * (x3 - (f_X12_hourOf x7 S)))), (0, .ref 100), (1, .int x1), (2, .int x2), (3, .int x3), (4, .int x4), (5, .int x5), (6, .int x6), (7, .int x7)] [] S R _
              refine u_st rfl (fun _ => rfl) ?_
              refine u_st rfl (fun _ => rfl) ?_
              show u_P L xs m d m_X12_escaped 246 [(8, .int (x2 * (x3 - (f_X12_hourOf x7 S)))), (0, .ref 100), (1, .int x1), (2, .int x2), (3, .int x3), (4, .int x4), (5, .int x5), (6, .int x6), (7, .int x7)] [.ref 100, .int x5] S R _
              refine u_getr rfl v_tyM rfl ?_
              refine u_st rfl (fun _ => rfl) ?_
              show u_P L xs m d m_X12_escaped 251 [(8, .int (x2 * (x3 - (f_X12_hourOf x7 S)))), (0, .ref 100), (1, .int x1), (2, .int x2), (3, .int x3), (4, .int x4), (5, .int x5), (6, .int x6), (7, .int x7)] [.int x7, .ref 168, .int x5] S R _
              refine u_ialdE (v := S 167 x7.toInt.toNat) rfl rfl rfl (fun b501 b502 => ?_)
              have hD := hD b501 b502
              show u_P L xs m d m_X12_escaped 252 [(8, .int (x2 * (x3 - (f_X12_hourOf x7 S)))), (0, .ref 100), (1, .int x1), (2, .int x2), (3, .int x3), (4, .int x4), (5, .int x5), (6, .int x6), (7, .int x7)] [.int (S 167 x7.toInt.toNat), .int x5] S R _
              refine u_st rfl (fun _ => rfl) ?_
              refine u_st rfl (fun _ => rfl) ?_
              show u_P L xs m d m_X12_escaped 255 [(8, .int (x2 * (x3 - (f_X12_hourOf x7 S)))), (0, .ref 100), (1, .int x1), (2, .int x2), (3, .int x3), (4, .int x4), (5, .int x5), (6, .int x6), (7, .int x7)] [.int ((S 167 x7.toInt.toNat) - (x2 * (x3 - (f_X12_hourOf x7 S)))), .int x5] S R _
              refine u_cs (ac := [.int x5, .int ((S 167 x7.toInt.toNat) - (x2 * (x3 - (f_X12_hourOf x7 S))))]) (rest := []) rfl (by decide) mt_X12_higher (fun _ => rfl) (Nat.le_of_ble_eq_true rfl) (Nat.le_of_ble_eq_true rfl) (fun d' => c_X12_higher L xs m d' x5 ((S 167 x7.toInt.toNat) - (x2 * (x3 - (f_X12_hourOf x7 S)))) S R) ?_
              rintro _ _ _ ⟨_, rfl, rfl, rfl, rfl⟩
              refine u_st rfl (fun _ => rfl) ?_
              refine u_st rfl (fun _ => rfl) ?_
              refine u_st rfl (fun _ => rfl) ?_
              show u_P L xs m d m_X12_escaped 263 [(5, .int (f_X12_higher x5 ((S 167 x7.toInt.toNat) - (x2 * (x3 - (f_X12_hourOf x7 S)))))), (8, .int (x2 * (x3 - (f_X12_hourOf x7 S)))), (0, .ref 100), (1, .int x1), (2, .int x2), (3, .int x3), (4, .int x4), (6, .int x6), (7, .int x7)] [.ref 100, .int x6] S R _
              refine u_getr rfl v_tyM rfl ?_
              refine u_st rfl (fun _ => rfl) ?_
              show u_P L xs m d m_X12_escaped 268 [(5, .int (f_X12_higher x5 ((S 167 x7.toInt.toNat) - (x2 * (x3 - (f_X12_hourOf x7 S)))))), (8, .int (x2 * (x3 - (f_X12_hourOf x7 S)))), (0, .ref 100), (1, .int x1), (2, .int x2), (3, .int x3), (4, .int x4), (6, .int x6), (7, .int x7)] [.int x7, .ref 169, .int x6] S R _
              refine u_ialdE (v := S 168 x7.toInt.toNat) rfl rfl rfl (fun b511 b512 => ?_)
              have hD := hD b511 b512
              show u_P L xs m d m_X12_escaped 269 [(5, .int (f_X12_higher x5 ((S 167 x7.toInt.toNat) - (x2 * (x3 - (f_X12_hourOf x7 S)))))), (8, .int (x2 * (x3 - (f_X12_hourOf x7 S)))), (0, .ref 100), (1, .int x1), (2, .int x2), (3, .int x3), (4, .int x4), (6, .int x6), (7, .int x7)] [.int (S 168 x7.toInt.toNat), .int x6] S R _
              refine u_st rfl (fun _ => rfl) ?_
              refine u_st rfl (fun _ => rfl) ?_
              show u_P L xs m d m_X12_escaped 272 [(5, .int (f_X12_higher x5 ((S 167 x7.toInt.toNat) - (x2 * (x3 - (f_X12_hourOf x7 S)))))), (8, .int (x2 * (x3 - (f_X12_hourOf x7 S)))), (0, .ref 100), (1, .int x1), (2, .int x2), (3, .int x3), (4, .int x4), (6, .int x6), (7, .int x7)] [.int ((S 168 x7.toInt.toNat) + (x2 * (x3 - (f_X12_hourOf x7 S)))), .int x6] S R _
              refine u_cs (ac := [.int x6, .int ((S 168 x7.toInt.toNat) + (x2 * (x3 - (f_X12_hourOf x7 S))))]) (rest := []) rfl (by decide) mt_X12_lower (fun _ => rfl) (Nat.le_of_ble_eq_true rfl) (Nat.le_of_ble_eq_true rfl) (fun d' => c_X12_lower L xs m d' x6 ((S 168 x7.toInt.toNat) + (x2 * (x3 - (f_X12_hourOf x7 S)))) S R) ?_
              rintro _ _ _ ⟨_, rfl, rfl, rfl, rfl⟩
              refine u_st rfl (fun _ => rfl) ?_
              refine u_st rfl (fun _ => rfl) ?_
              refine u_st rfl (fun _ => rfl) ?_
              show u_P L xs m d m_X12_escaped 280 [(6, .int (f_X12_lower x6 ((S 168 x7.toInt.toNat) + (x2 * (x3 - (f_X12_hourOf x7 S)))))), (5, .int (f_X12_higher x5 ((S 167 x7.toInt.toNat) - (x2 * (x3 - (f_X12_hourOf x7 S)))))), (8, .int (x2 * (x3 - (f_X12_hourOf x7 S)))), (0, .ref 100), (1, .int x1), (2, .int x2), (3, .int x3), (4, .int x4), (7, .int x7)] [.int x7, .ref 100] S R _
              refine u_cv (rest := []) rfl (by decide) mt_X12_hourOf v_tyM rfl rfl rfl (Nat.le_of_ble_eq_true rfl) (Nat.le_of_ble_eq_true rfl) (Nat.le_of_ble_eq_true rfl) (fun d' => c_X12_hourOf L xs m d' x7 S R) ?_
              rintro _ _ _ ⟨_, rfl, rfl, rfl, rfl⟩
              refine u_st rfl (fun _ => rfl) ?_
              show u_P L xs m d m_X12_escaped 284 [(6, .int (f_X12_lower x6 ((S 168 x7.toInt.toNat) + (x2 * (x3 - (f_X12_hourOf x7 S)))))), (5, .int (f_X12_higher x5 ((S 167 x7.toInt.toNat) - (x2 * (x3 - (f_X12_hourOf x7 S)))))), (8, .int (x2 * (x3 - (f_X12_hourOf x7 S)))), (0, .ref 100), (1, .int x1), (2, .int x2), (3, .int x3), (4, .int x4), (7, .int x7)] [.int x3, .int (f_X12_hourOf x7 S)] S R _
              refine u_ic_le rfl (fun h52 => ?_) (fun h52 => ?_)
              · have hD := hD.1 h52
                show u_P L xs m d m_X12_escaped 338 [(6, .int (f_X12_lower x6 ((S 168 x7.toInt.toNat) + (x2 * (x3 - (f_X12_hourOf x7 S)))))), (5, .int (f_X12_higher x5 ((S 167 x7.toInt.toNat) - (x2 * (x3 - (f_X12_hourOf x7 S)))))), (8, .int (x2 * (x3 - (f_X12_hourOf x7 S)))), (0, .ref 100), (1, .int x1), (2, .int x2), (3, .int x3), (4, .int x4), (7, .int x7)] [] S R _
                refine u_st rfl (fun _ => rfl) ?_
                refine u_st rfl (fun _ => rfl) ?_
                refine u_lc (b := [(0, .ref 100), (1, .int x1), (2, .int x2), (3, .int x3), (4, .int x4), (5, .int (f_X12_higher x5 ((S 167 x7.toInt.toNat) - (x2 * (x3 - (f_X12_hourOf x7 S)))))), (6, .int (f_X12_lower x6 ((S 168 x7.toInt.toNat) + (x2 * (x3 - (f_X12_hourOf x7 S)))))), (7, .int (x7 + (Int32.ofInt 1))), (8, .int (x2 * (x3 - (f_X12_hourOf x7 S))))]) (show ([7, 6, 5, 8, 0, 1, 2, 3, 4] : List Nat).Nodup by decide) (show ([0, 1, 2, 3, 4, 5, 6, 7, 8] : List Nat).Nodup by decide) (fun i => match i with | 0 => rfl | 1 => rfl | 2 => rfl | 3 => rfl | 4 => rfl | 5 => rfl | 6 => rfl | 7 => rfl | 8 => rfl | _ + 9 => rfl) ?_
                exact (ih m hm).2.2 d (x2 * (x3 - (f_X12_hourOf x7 S))) x1 x2 x3 x4 (f_X12_higher x5 ((S 167 x7.toInt.toNat) - (x2 * (x3 - (f_X12_hourOf x7 S))))) (f_X12_lower x6 ((S 168 x7.toInt.toNat) + (x2 * (x3 - (f_X12_hourOf x7 S))))) (x7 + (Int32.ofInt 1)) S hD
              · have hD := hD.2 h52
                show u_P L xs m d m_X12_escaped 287 [(6, .int (f_X12_lower x6 ((S 168 x7.toInt.toNat) + (x2 * (x3 - (f_X12_hourOf x7 S)))))), (5, .int (f_X12_higher x5 ((S 167 x7.toInt.toNat) - (x2 * (x3 - (f_X12_hourOf x7 S)))))), (8, .int (x2 * (x3 - (f_X12_hourOf x7 S)))), (0, .ref 100), (1, .int x1), (2, .int x2), (3, .int x3), (4, .int x4), (7, .int x7)] [] S R _
                refine u_st rfl (fun _ => rfl) ?_
                show u_P L xs m d m_X12_escaped 289 [(6, .int (f_X12_lower x6 ((S 168 x7.toInt.toNat) + (x2 * (x3 - (f_X12_hourOf x7 S)))))), (5, .int (f_X12_higher x5 ((S 167 x7.toInt.toNat) - (x2 * (x3 - (f_X12_hourOf x7 S)))))), (8, .int (x2 * (x3 - (f_X12_hourOf x7 S)))), (0, .ref 100), (1, .int x1), (2, .int x2), (3, .int x3), (4, .int x4), (7, .int x7)] [.int x7] S R _
                refine u_if_eq rfl (fun h53 => ?_) (fun h53 => ?_)
                · have hD := hD.1 h53
                  show u_P L xs m d m_X12_escaped 304 [(6, .int (f_X12_lower x6 ((S 168 x7.toInt.toNat) + (x2 * (x3 - (f_X12_hourOf x7 S)))))), (5, .int (f_X12_higher x5 ((S 167 x7.toInt.toNat) - (x2 * (x3 - (f_X12_hourOf x7 S)))))), (8, .int (x2 * (x3 - (f_X12_hourOf x7 S)))), (0, .ref 100), (1, .int x1), (2, .int x2), (3, .int x3), (4, .int x4), (7, .int x7)] [] S R _
                  refine u_st rfl (fun _ => rfl) ?_
                  refine u_st rfl (fun _ => rfl) ?_
                  show u_P L xs m d m_X12_escaped 307 [(6, .int (f_X12_lower x6 ((S 168 x7.toInt.toNat) + (x2 * (x3 - (f_X12_hourOf x7 S)))))), (5, .int (f_X12_higher x5 ((S 167 x7.toInt.toNat) - (x2 * (x3 - (f_X12_hourOf x7 S)))))), (8, .int (x2 * (x3 - (f_X12_hourOf x7 S)))), (0, .ref 100), (1, .int x1), (2, .int x2), (3, .int x3), (4, .int x4), (7, .int x7)] [.ref 100, .int (f_X12_higher x5 ((S 167 x7.toInt.toNat) - (x2 * (x3 - (f_X12_hourOf x7 S)))))] S R _
                  refine u_getr rfl v_tyM rfl ?_
                  refine u_st rfl (fun _ => rfl) ?_
                  show u_P L xs m d m_X12_escaped 312 [(6, .int (f_X12_lower x6 ((S 168 x7.toInt.toNat) + (x2 * (x3 - (f_X12_hourOf x7 S)))))), (5, .int (f_X12_higher x5 ((S 167 x7.toInt.toNat) - (x2 * (x3 - (f_X12_hourOf x7 S)))))), (8, .int (x2 * (x3 - (f_X12_hourOf x7 S)))), (0, .ref 100), (1, .int x1), (2, .int x2), (3, .int x3), (4, .int x4), (7, .int x7)] [.int x7, .ref 170, .int (f_X12_higher x5 ((S 167 x7.toInt.toNat) - (x2 * (x3 - (f_X12_hourOf x7 S)))))] S R _
                  refine u_ialdE (v := S 169 x7.toInt.toNat) rfl rfl rfl (fun b541 b542 => ?_)
                  have hD := hD b541 b542
                  show u_P L xs m d m_X12_escaped 313 [(6, .int (f_X12_lower x6 ((S 168 x7.toInt.toNat) + (x2 * (x3 - (f_X12_hourOf x7 S)))))), (5, .int (f_X12_higher x5 ((S 167 x7.toInt.toNat) - (x2 * (x3 - (f_X12_hourOf x7 S)))))), (8, .int (x2 * (x3 - (f_X12_hourOf x7 S)))), (0, .ref 100), (1, .int x1), (2, .int x2), (3, .int x3), (4, .int x4), (7, .int x7)] [.int (S 169 x7.toInt.toNat), .int (f_X12_higher x5 ((S 167 x7.toInt.toNat) - (x2 * (x3 - (f_X12_hourOf x7 S)))))] S R _
                  refine u_st rfl (fun _ => rfl) ?_
                  refine u_st rfl (fun _ => rfl) ?_
                  show u_P L xs m d m_X12_escaped 316 [(6, .int (f_X12_lower x6 ((S 168 x7.toInt.toNat) + (x2 * (x3 - (f_X12_hourOf x7 S)))))), (5, .int (f_X12_higher x5 ((S 167 x7.toInt.toNat) - (x2 * (x3 - (f_X12_hourOf x7 S)))))), (8, .int (x2 * (x3 - (f_X12_hourOf x7 S)))), (0, .ref 100), (1, .int x1), (2, .int x2), (3, .int x3), (4, .int x4), (7, .int x7)] [.int ((S 169 x7.toInt.toNat) - (x2 * (x3 - (f_X12_hourOf x7 S)))), .int (f_X12_higher x5 ((S 167 x7.toInt.toNat) - (x2 * (x3 - (f_X12_hourOf x7 S)))))] S R _
                  refine u_cs (ac := [.int (f_X12_higher x5 ((S 167 x7.toInt.toNat) - (x2 * (x3 - (f_X12_hourOf x7 S))))), .int ((S 169 x7.toInt.toNat) - (x2 * (x3 - (f_X12_hourOf x7 S))))]) (rest := []) rfl (by decide) mt_X12_higher (fun _ => rfl) (Nat.le_of_ble_eq_true rfl) (Nat.le_of_ble_eq_true rfl) (fun d' => c_X12_higher L xs m d' (f_X12_higher x5 ((S 167 x7.toInt.toNat) - (x2 * (x3 - (f_X12_hourOf x7 S))))) ((S 169 x7.toInt.toNat) - (x2 * (x3 - (f_X12_hourOf x7 S)))) S R) ?_
                  rintro _ _ _ ⟨_, rfl, rfl, rfl, rfl⟩
                  refine u_st rfl (fun _ => rfl) ?_
                  refine u_st rfl (fun _ => rfl) ?_
                  refine u_st rfl (fun _ => rfl) ?_
                  show u_P L xs m d m_X12_escaped 324 [(5, .int (f_X12_higher (f_X12_higher x5 ((S 167 x7.toInt.toNat) - (x2 * (x3 - (f_X12_hourOf x7 S))))) ((S 169 x7.toInt.toNat) - (x2 * (x3 - (f_X12_hourOf x7 S)))))), (6, .int (f_X12_lower x6 ((S 168 x7.toInt.toNat) + (x2 * (x3 - (f_X12_hourOf x7 S)))))), (8, .int (x2 * (x3 - (f_X12_hourOf x7 S)))), (0, .ref 100), (1, .int x1), (2, .int x2), (3, .int x3), (4, .int x4), (7, .int x7)] [.ref 100, .int (f_X12_lower x6 ((S 168 x7.toInt.toNat) + (x2 * (x3 - (f_X12_hourOf x7 S)))))] S R _
                  refine u_getr rfl v_tyM rfl ?_
                  refine u_st rfl (fun _ => rfl) ?_
                  show u_P L xs m d m_X12_escaped 329 [(5, .int (f_X12_higher (f_X12_higher x5 ((S 167 x7.toInt.toNat) - (x2 * (x3 - (f_X12_hourOf x7 S))))) ((S 169 x7.toInt.toNat) - (x2 * (x3 - (f_X12_hourOf x7 S)))))), (6, .int (f_X12_lower x6 ((S 168 x7.toInt.toNat) + (x2 * (x3 - (f_X12_hourOf x7 S)))))), (8, .int (x2 * (x3 - (f_X12_hourOf x7 S)))), (0, .ref 100), (1, .int x1), (2, .int x2), (3, .int x3), (4, .int x4), (7, .int x7)] [.int x7, .ref 171, .int (f_X12_lower x6 ((S 168 x7.toInt.toNat) + (x2 * (x3 - (f_X12_hourOf x7 S)))))] S R _
                  refine u_ialdE (v := S 170 x7.toInt.toNat) rfl rfl rfl (fun b551 b552 => ?_)
                  have hD := hD b551 b552
                  show u_P L xs m d m_X12_escaped 330 [(5, .int (f_X12_higher (f_X12_higher x5 ((S 167 x7.toInt.toNat) - (x2 * (x3 - (f_X12_hourOf x7 S))))) ((S 169 x7.toInt.toNat) - (x2 * (x3 - (f_X12_hourOf x7 S)))))), (6, .int (f_X12_lower x6 ((S 168 x7.toInt.toNat) + (x2 * (x3 - (f_X12_hourOf x7 S)))))), (8, .int (x2 * (x3 - (f_X12_hourOf x7 S)))), (0, .ref 100), (1, .int x1), (2, .int x2), (3, .int x3), (4, .int x4), (7, .int x7)] [.int (S 170 x7.toInt.toNat), .int (f_X12_lower x6 ((S 168 x7.toInt.toNat) + (x2 * (x3 - (f_X12_hourOf x7 S)))))] S R _
                  refine u_st rfl (fun _ => rfl) ?_
                  refine u_st rfl (fun _ => rfl) ?_
                  show u_P L xs m d m_X12_escaped 333 [(5, .int (f_X12_higher (f_X12_higher x5 ((S 167 x7.toInt.toNat) - (x2 * (x3 - (f_X12_hourOf x7 S))))) ((S 169 x7.toInt.toNat) - (x2 * (x3 - (f_X12_hourOf x7 S)))))), (6, .int (f_X12_lower x6 ((S 168 x7.toInt.toNat) + (x2 * (x3 - (f_X12_hourOf x7 S)))))), (8, .int (x2 * (x3 - (f_X12_hourOf x7 S)))), (0, .ref 100), (1, .int x1), (2, .int x2), (3, .int x3), (4, .int x4), (7, .int x7)] [.int ((S 170 x7.toInt.toNat) + (x2 * (x3 - (f_X12_hourOf x7 S)))), .int (f_X12_lower x6 ((S 168 x7.toInt.toNat) + (x2 * (x3 - (f_X12_hourOf x7 S)))))] S R _
                  refine u_cs (ac := [.int (f_X12_lower x6 ((S 168 x7.toInt.toNat) + (x2 * (x3 - (f_X12_hourOf x7 S))))), .int ((S 170 x7.toInt.toNat) + (x2 * (x3 - (f_X12_hourOf x7 S))))]) (rest := []) rfl (by decide) mt_X12_lower (fun _ => rfl) (Nat.le_of_ble_eq_true rfl) (Nat.le_of_ble_eq_true rfl) (fun d' => c_X12_lower L xs m d' (f_X12_lower x6 ((S 168 x7.toInt.toNat) + (x2 * (x3 - (f_X12_hourOf x7 S))))) ((S 170 x7.toInt.toNat) + (x2 * (x3 - (f_X12_hourOf x7 S)))) S R) ?_
                  rintro _ _ _ ⟨_, rfl, rfl, rfl, rfl⟩
                  refine u_st rfl (fun _ => rfl) ?_
                  refine u_st rfl (fun _ => rfl) ?_
                  refine u_st rfl (fun _ => rfl) ?_
                  refine u_lc (b := [(0, .ref 100), (1, .int x1), (2, .int x2), (3, .int x3), (4, .int x4), (5, .int (f_X12_higher (f_X12_higher x5 ((S 167 x7.toInt.toNat) - (x2 * (x3 - (f_X12_hourOf x7 S))))) ((S 169 x7.toInt.toNat) - (x2 * (x3 - (f_X12_hourOf x7 S)))))), (6, .int (f_X12_lower (f_X12_lower x6 ((S 168 x7.toInt.toNat) + (x2 * (x3 - (f_X12_hourOf x7 S))))) ((S 170 x7.toInt.toNat) + (x2 * (x3 - (f_X12_hourOf x7 S)))))), (7, .int (x7 + (Int32.ofInt 1))), (8, .int (x2 * (x3 - (f_X12_hourOf x7 S))))]) (show ([7, 6, 5, 8, 0, 1, 2, 3, 4] : List Nat).Nodup by decide) (show ([0, 1, 2, 3, 4, 5, 6, 7, 8] : List Nat).Nodup by decide) (fun i => match i with | 0 => rfl | 1 => rfl | 2 => rfl | 3 => rfl | 4 => rfl | 5 => rfl | 6 => rfl | 7 => rfl | 8 => rfl | _ + 9 => rfl) ?_
                  exact (ih m hm).2.2 d (x2 * (x3 - (f_X12_hourOf x7 S))) x1 x2 x3 x4 (f_X12_higher (f_X12_higher x5 ((S 167 x7.toInt.toNat) - (x2 * (x3 - (f_X12_hourOf x7 S))))) ((S 169 x7.toInt.toNat) - (x2 * (x3 - (f_X12_hourOf x7 S))))) (f_X12_lower (f_X12_lower x6 ((S 168 x7.toInt.toNat) + (x2 * (x3 - (f_X12_hourOf x7 S))))) ((S 170 x7.toInt.toNat) + (x2 * (x3 - (f_X12_hourOf x7 S))))) (x7 + (Int32.ofInt 1)) S hD
                · have hD := hD.2 h53
                  show u_P L xs m d m_X12_escaped 292 [(6, .int (f_X12_lower x6 ((S 168 x7.toInt.toNat) + (x2 * (x3 - (f_X12_hourOf x7 S)))))), (5, .int (f_X12_higher x5 ((S 167 x7.toInt.toNat) - (x2 * (x3 - (f_X12_hourOf x7 S)))))), (8, .int (x2 * (x3 - (f_X12_hourOf x7 S)))), (0, .ref 100), (1, .int x1), (2, .int x2), (3, .int x3), (4, .int x4), (7, .int x7)] [] S R _
                  refine u_st rfl (fun _ => rfl) ?_
                  refine u_st rfl (fun _ => rfl) ?_
                  refine u_st rfl (fun _ => rfl) ?_
                  refine u_st rfl (fun _ => rfl) ?_
                  show u_P L xs m d m_X12_escaped 297 [(6, .int (f_X12_lower x6 ((S 168 x7.toInt.toNat) + (x2 * (x3 - (f_X12_hourOf x7 S)))))), (5, .int (f_X12_higher x5 ((S 167 x7.toInt.toNat) - (x2 * (x3 - (f_X12_hourOf x7 S)))))), (8, .int (x2 * (x3 - (f_X12_hourOf x7 S)))), (0, .ref 100), (1, .int x1), (2, .int x2), (3, .int x3), (4, .int x4), (7, .int x7)] [.int (x7 - (Int32.ofInt 1)), .ref 100] S R _
                  refine u_cv (rest := []) rfl (by decide) mt_X12_hourOf v_tyM rfl rfl rfl (Nat.le_of_ble_eq_true rfl) (Nat.le_of_ble_eq_true rfl) (Nat.le_of_ble_eq_true rfl) (fun d' => c_X12_hourOf L xs m d' (x7 - (Int32.ofInt 1)) S R) ?_
                  rintro _ _ _ ⟨_, rfl, rfl, rfl, rfl⟩
                  refine u_st rfl (fun _ => rfl) ?_
                  show u_P L xs m d m_X12_escaped 301 [(6, .int (f_X12_lower x6 ((S 168 x7.toInt.toNat) + (x2 * (x3 - (f_X12_hourOf x7 S)))))), (5, .int (f_X12_higher x5 ((S 167 x7.toInt.toNat) - (x2 * (x3 - (f_X12_hourOf x7 S)))))), (8, .int (x2 * (x3 - (f_X12_hourOf x7 S)))), (0, .ref 100), (1, .int x1), (2, .int x2), (3, .int x3), (4, .int x4), (7, .int x7)] [.int x3, .int (f_X12_hourOf (x7 - (Int32.ofInt 1)) S)] S R _
                  refine u_ic_gt rfl (fun h56 => ?_) (fun h56 => ?_)
                  · have hD := hD.1 h56
                    show u_P L xs m d m_X12_escaped 338 [(6, .int (f_X12_lower x6 ((S 168 x7.toInt.toNat) + (x2 * (x3 - (f_X12_hourOf x7 S)))))), (5, .int (f_X12_higher x5 ((S 167 x7.toInt.toNat) - (x2 * (x3 - (f_X12_hourOf x7 S)))))), (8, .int (x2 * (x3 - (f_X12_hourOf x7 S)))), (0, .ref 100), (1, .int x1), (2, .int x2), (3, .int x3), (4, .int x4), (7, .int x7)] [] S R _
                    refine u_st rfl (fun _ => rfl) ?_
                    refine u_st rfl (fun _ => rfl) ?_
                    refine u_lc (b := [(0, .ref 100), (1, .int x1), (2, .int x2), (3, .int x3), (4, .int x4), (5, .int (f_X12_higher x5 ((S 167 x7.toInt.toNat) - (x2 * (x3 - (f_X12_hourOf x7 S)))))), (6, .int (f_X12_lower x6 ((S 168 x7.toInt.toNat) + (x2 * (x3 - (f_X12_hourOf x7 S)))))), (7, .int (x7 + (Int32.ofInt 1))), (8, .int (x2 * (x3 - (f_X12_hourOf x7 S))))]) (show ([7, 6, 5, 8, 0, 1, 2, 3, 4] : List Nat).Nodup by decide) (show ([0, 1, 2, 3, 4, 5, 6, 7, 8] : List Nat).Nodup by decide) (fun i => match i with | 0 => rfl | 1 => rfl | 2 => rfl | 3 => rfl | 4 => rfl | 5 => rfl | 6 => rfl | 7 => rfl | 8 => rfl | _ + 9 => rfl) ?_
                    exact (ih m hm).2.2 d (x2 * (x3 - (f_X12_hourOf x7 S))) x1 x2 x3 x4 (f_X12_higher x5 ((S 167 x7.toInt.toNat) - (x2 * (x3 - (f_X12_hourOf x7 S))))) (f_X12_lower x6 ((S 168 x7.toInt.toNat) + (x2 * (x3 - (f_X12_hourOf x7 S))))) (x7 + (Int32.ofInt 1)) S hD
                  · have hD := hD.2 h56
                    show u_P L xs m d m_X12_escaped 304 [(6, .int (f_X12_lower x6 ((S 168 x7.toInt.toNat) + (x2 * (x3 - (f_X12_hourOf x7 S)))))), (5, .int (f_X12_higher x5 ((S 167 x7.toInt.toNat) - (x2 * (x3 - (f_X12_hourOf x7 S)))))), (8, .int (x2 * (x3 - (f_X12_hourOf x7 S)))), (0, .ref 100), (1, .int x1), (2, .int x2), (3, .int x3), (4, .int x4), (7, .int x7)] [] S R _
                    refine u_st rfl (fun _ => rfl) ?_
                    refine u_st rfl (fun _ => rfl) ?_
                    show u_P L xs m d m_X12_escaped 307 [(6, .int (f_X12_lower x6 ((S 168 x7.toInt.toNat) + (x2 * (x3 - (f_X12_hourOf x7 S)))))), (5, .int (f_X12_higher x5 ((S 167 x7.toInt.toNat) - (x2 * (x3 - (f_X12_hourOf x7 S)))))), (8, .int (x2 * (x3 - (f_X12_hourOf x7 S)))), (0, .ref 100), (1, .int x1), (2, .int x2), (3, .int x3), (4, .int x4), (7, .int x7)] [.ref 100, .int (f_X12_higher x5 ((S 167 x7.toInt.toNat) - (x2 * (x3 - (f_X12_hourOf x7 S)))))] S R _
                    refine u_getr rfl v_tyM rfl ?_
                    refine u_st rfl (fun _ => rfl) ?_
                    show u_P L xs m d m_X12_escaped 312 [(6, .int (f_X12_lower x6 ((S 168 x7.toInt.toNat) + (x2 * (x3 - (f_X12_hourOf x7 S)))))), (5, .int (f_X12_higher x5 ((S 167 x7.toInt.toNat) - (x2 * (x3 - (f_X12_hourOf x7 S)))))), (8, .int (x2 * (x3 - (f_X12_hourOf x7 S)))), (0, .ref 100), (1, .int x1), (2, .int x2), (3, .int x3), (4, .int x4), (7, .int x7)] [.int x7, .ref 170, .int (f_X12_higher x5 ((S 167 x7.toInt.toNat) - (x2 * (x3 - (f_X12_hourOf x7 S)))))] S R _
                    refine u_ialdE (v := S 169 x7.toInt.toNat) rfl rfl rfl (fun b571 b572 => ?_)
                    have hD := hD b571 b572
                    show u_P L xs m d m_X12_escaped 313 [(6, .int (f_X12_lower x6 ((S 168 x7.toInt.toNat) + (x2 * (x3 - (f_X12_hourOf x7 S)))))), (5, .int (f_X12_higher x5 ((S 167 x7.toInt.toNat) - (x2 * (x3 - (f_X12_hourOf x7 S)))))), (8, .int (x2 * (x3 - (f_X12_hourOf x7 S)))), (0, .ref 100), (1, .int x1), (2, .int x2), (3, .int x3), (4, .int x4), (7, .int x7)] [.int (S 169 x7.toInt.toNat), .int (f_X12_higher x5 ((S 167 x7.toInt.toNat) - (x2 * (x3 - (f_X12_hourOf x7 S)))))] S R _
                    refine u_st rfl (fun _ => rfl) ?_
                    refine u_st rfl (fun _ => rfl) ?_
                    show u_P L xs m d m_X12_escaped 316 [(6, .int (f_X12_lower x6 ((S 168 x7.toInt.toNat) + (x2 * (x3 - (f_X12_hourOf x7 S)))))), (5, .int (f_X12_higher x5 ((S 167 x7.toInt.toNat) - (x2 * (x3 - (f_X12_hourOf x7 S)))))), (8, .int (x2 * (x3 - (f_X12_hourOf x7 S)))), (0, .ref 100), (1, .int x1), (2, .int x2), (3, .int x3), (4, .int x4), (7, .int x7)] [.int ((S 169 x7.toInt.toNat) - (x2 * (x3 - (f_X12_hourOf x7 S)))), .int (f_X12_higher x5 ((S 167 x7.toInt.toNat) - (x2 * (x3 - (f_X12_hourOf x7 S)))))] S R _
                    refine u_cs (ac := [.int (f_X12_higher x5 ((S 167 x7.toInt.toNat) - (x2 * (x3 - (f_X12_hourOf x7 S))))), .int ((S 169 x7.toInt.toNat) - (x2 * (x3 - (f_X12_hourOf x7 S))))]) (rest := []) rfl (by decide) mt_X12_higher (fun _ => rfl) (Nat.le_of_ble_eq_true rfl) (Nat.le_of_ble_eq_true rfl) (fun d' => c_X12_higher L xs m d' (f_X12_higher x5 ((S 167 x7.toInt.toNat) - (x2 * (x3 - (f_X12_hourOf x7 S))))) ((S 169 x7.toInt.toNat) - (x2 * (x3 - (f_X12_hourOf x7 S)))) S R) ?_
                    rintro _ _ _ ⟨_, rfl, rfl, rfl, rfl⟩
                    refine u_st rfl (fun _ => rfl) ?_
                    refine u_st rfl (fun _ => rfl) ?_
                    refine u_st rfl (fun _ => rfl) ?_
                    show u_P L xs m d m_X12_escaped 324 [(5, .int (f_X12_higher (f_X12_higher x5 ((S 167 x7.toInt.toNat) - (x2 * (x3 - (f_X12_hourOf x7 S))))) ((S 169 x7.toInt.toNat) - (x2 * (x3 - (f_X12_hourOf x7 S)))))), (6, .int (f_X12_lower x6 ((S 168 x7.toInt.toNat) + (x2 * (x3 - (f_X12_hourOf x7 S)))))), (8, .int (x2 * (x3 - (f_X12_hourOf x7 S)))), (0, .ref 100), (1, .int x1), (2, .int x2), (3, .int x3), (4, .int x4), (7, .int x7)] [.ref 100, .int (f_X12_lower x6 ((S 168 x7.toInt.toNat) + (x2 * (x3 - (f_X12_hourOf x7 S)))))] S R _
                    refine u_getr rfl v_tyM rfl ?_
                    refine u_st rfl (fun _ => rfl) ?_
                    show u_P L xs m d m_X12_escaped 329 [(5, .int (f_X12_higher (f_X12_higher x5 ((S 167 x7.toInt.toNat) - (x2 * (x3 - (f_X12_hourOf x7 S))))) ((S 169 x7.toInt.toNat) - (x2 * (x3 - (f_X12_hourOf x7 S)))))), (6, .int (f_X12_lower x6 ((S 168 x7.toInt.toNat) + (x2 * (x3 - (f_X12_hourOf x7 S)))))), (8, .int (x2 * (x3 - (f_X12_hourOf x7 S)))), (0, .ref 100), (1, .int x1), (2, .int x2), (3, .int x3), (4, .int x4), (7, .int x7)] [.int x7, .ref 171, .int (f_X12_lower x6 ((S 168 x7.toInt.toNat) + (x2 * (x3 - (f_X12_hourOf x7 S)))))] S R _
                    refine u_ialdE (v := S 170 x7.toInt.toNat) rfl rfl rfl (fun b581 b582 => ?_)
                    have hD := hD b581 b582
                    show u_P L xs m d m_X12_escaped 330 [(5, .int (f_X12_higher (f_X12_higher x5 ((S 167 x7.toInt.toNat) - (x2 * (x3 - (f_X12_hourOf x7 S))))) ((S 169 x7.toInt.toNat) - (x2 * (x3 - (f_X12_hourOf x7 S)))))), (6, .int (f_X12_lower x6 ((S 168 x7.toInt.toNat) + (x2 * (x3 - (f_X12_hourOf x7 S)))))), (8, .int (x2 * (x3 - (f_X12_hourOf x7 S)))), (0, .ref 100), (1, .int x1), (2, .int x2), (3, .int x3), (4, .int x4), (7, .int x7)] [.int (S 170 x7.toInt.toNat), .int (f_X12_lower x6 ((S 168 x7.toInt.toNat) + (x2 * (x3 - (f_X12_hourOf x7 S)))))] S R _
                    refine u_st rfl (fun _ => rfl) ?_
                    refine u_st rfl (fun _ => rfl) ?_
                    show u_P L xs m d m_X12_escaped 333 [(5, .int (f_X12_higher (f_X12_higher x5 ((S 167 x7.toInt.toNat) - (x2 * (x3 - (f_X12_hourOf x7 S))))) ((S 169 x7.toInt.toNat) - (x2 * (x3 - (f_X12_hourOf x7 S)))))), (6, .int (f_X12_lower x6 ((S 168 x7.toInt.toNat) + (x2 * (x3 - (f_X12_hourOf x7 S)))))), (8, .int (x2 * (x3 - (f_X12_hourOf x7 S)))), (0, .ref 100), (1, .int x1), (2, .int x2), (3, .int x3), (4, .int x4), (7, .int x7)] [.int ((S 170 x7.toInt.toNat) + (x2 * (x3 - (f_X12_hourOf x7 S)))), .int (f_X12_lower x6 ((S 168 x7.toInt.toNat) + (x2 * (x3 - (f_X12_hourOf x7 S)))))] S R _
                    refine u_cs (ac := [.int (f_X12_lower x6 ((S 168 x7.toInt.toNat) + (x2 * (x3 - (f_X12_hourOf x7 S))))), .int ((S 170 x7.toInt.toNat) + (x2 * (x3 - (f_X12_hourOf x7 S))))]) (rest := []) rfl (by decide) mt_X12_lower (fun _ => rfl) (Nat.le_of_ble_eq_true rfl) (Nat.le_of_ble_eq_true rfl) (fun d' => c_X12_lower L xs m d' (f_X12_lower x6 ((S 168 x7.toInt.toNat) + (x2 * (x3 - (f_X12_hourOf x7 S))))) ((S 170 x7.toInt.toNat) + (x2 * (x3 - (f_X12_hourOf x7 S)))) S R) ?_
                    rintro _ _ _ ⟨_, rfl, rfl, rfl, rfl⟩
                    refine u_st rfl (fun _ => rfl) ?_
                    refine u_st rfl (fun _ => rfl) ?_
                    refine u_st rfl (fun _ => rfl) ?_
                    refine u_lc (b := [(0, .ref 100), (1, .int x1), (2, .int x2), (3, .int x3), (4, .int x4), (5, .int (f_X12_higher (f_X12_higher x5 ((S 167 x7.toInt.toNat) - (x2 * (x3 - (f_X12_hourOf x7 S))))) ((S 169 x7.toInt.toNat) - (x2 * (x3 - (f_X12_hourOf x7 S)))))), (6, .int (f_X12_lower (f_X12_lower x6 ((S 168 x7.toInt.toNat) + (x2 * (x3 - (f_X12_hourOf x7 S))))) ((S 170 x7.toInt.toNat) + (x2 * (x3 - (f_X12_hourOf x7 S)))))), (7, .int (x7 + (Int32.ofInt 1))), (8, .int (x2 * (x3 - (f_X12_hourOf x7 S))))]) (show ([7, 6, 5, 8, 0, 1, 2, 3, 4] : List Nat).Nodup by decide) (show ([0, 1, 2, 3, 4, 5, 6, 7, 8] : List Nat).Nodup by decide) (fun i => match i with | 0 => rfl | 1 => rfl | 2 => rfl | 3 => rfl | 4 => rfl | 5 => rfl | 6 => rfl | 7 => rfl | 8 => rfl | _ + 9 => rfl) ?_
                    exact (ih m hm).2.2 d (x2 * (x3 - (f_X12_hourOf x7 S))) x1 x2 x3 x4 (f_X12_higher (f_X12_higher x5 ((S 167 x7.toInt.toNat) - (x2 * (x3 - (f_X12_hourOf x7 S))))) ((S 169 x7.toInt.toNat) - (x2 * (x3 - (f_X12_hourOf x7 S))))) (f_X12_lower (f_X12_lower x6 ((S 168 x7.toInt.toNat) + (x2 * (x3 - (f_X12_hourOf x7 S))))) ((S 170 x7.toInt.toNat) + (x2 * (x3 - (f_X12_hourOf x7 S))))) (x7 + (Int32.ofInt 1)) S hD
            · have hD := hD.2 h49
              show u_P L xs m d m_X12_escaped 231 [(8, .int (x2 * (x3 - (f_X12_hourOf x7 S)))), (0, .ref 100), (1, .int x1), (2, .int x2), (3, .int x3), (4, .int x4), (5, .int x5), (6, .int x6), (7, .int x7)] [] S R _
              refine u_st rfl (fun _ => rfl) ?_
              refine u_st rfl (fun _ => rfl) ?_
              refine u_st rfl (fun _ => rfl) ?_
              refine u_st rfl (fun _ => rfl) ?_
              show u_P L xs m d m_X12_escaped 236 [(8, .int (x2 * (x3 - (f_X12_hourOf x7 S)))), (0, .ref 100), (1, .int x1), (2, .int x2), (3, .int x3), (4, .int x4), (5, .int x5), (6, .int x6), (7, .int x7)] [.int (x7 + (Int32.ofInt 1)), .ref 100] S R _
              refine u_cv (rest := []) rfl (by decide) mt_X12_hourOf v_tyM rfl rfl rfl (Nat.le_of_ble_eq_true rfl) (Nat.le_of_ble_eq_true rfl) (Nat.le_of_ble_eq_true rfl) (fun d' => c_X12_hourOf L xs m d' (x7 + (Int32.ofInt 1)) S R) ?_
              rintro _ _ _ ⟨_, rfl, rfl, rfl, rfl⟩
              refine u_st rfl (fun _ => rfl) ?_
              show u_P L xs m d m_X12_escaped 240 [(8, .int (x2 * (x3 - (f_X12_hourOf x7 S)))), (0, .ref 100), (1, .int x1), (2, .int x2), (3, .int x3), (4, .int x4), (5, .int x5), (6, .int x6), (7, .int x7)] [.int x3, .int (f_X12_hourOf (x7 + (Int32.ofInt 1)) S)] S R _
              refine u_ic_le rfl (fun h59 => ?_) (fun h59 => ?_)
              · have hD := hD.1 h59
                show u_P L xs m d m_X12_escaped 277 [(8, .int (x2 * (x3 - (f_X12_hourOf x7 S)))), (0, .ref 100), (1, .int x1), (2, .int x2), (3, .int x3), (4, .int x4), (5, .int x5), (6, .int x6), (7, .int x7)] [] S R _
                refine u_st rfl (fun _ => rfl) ?_
                refine u_st rfl (fun _ => rfl) ?_
                show u_P L xs m d m_X12_escaped 280 [(8, .int (x2 * (x3 - (f_X12_hourOf x7 S)))), (0, .ref 100), (1, .int x1), (2, .int x2), (3, .int x3), (4, .int x4), (5, .int x5), (6, .int x6), (7, .int x7)] [.int x7, .ref 100] S R _
                refine u_cv (rest := []) rfl (by decide) mt_X12_hourOf v_tyM rfl rfl rfl (Nat.le_of_ble_eq_true rfl) (Nat.le_of_ble_eq_true rfl) (Nat.le_of_ble_eq_true rfl) (fun d' => c_X12_hourOf L xs m d' x7 S R) ?_
                rintro _ _ _ ⟨_, rfl, rfl, rfl, rfl⟩
                refine u_st rfl (fun _ => rfl) ?_
                show u_P L xs m d m_X12_escaped 284 [(8, .int (x2 * (x3 - (f_X12_hourOf x7 S)))), (0, .ref 100), (1, .int x1), (2, .int x2), (3, .int x3), (4, .int x4), (5, .int x5), (6, .int x6), (7, .int x7)] [.int x3, .int (f_X12_hourOf x7 S)] S R _
                refine u_ic_le rfl (fun h60 => ?_) (fun h60 => ?_)
                · have hD := hD.1 h60
                  show u_P L xs m d m_X12_escaped 338 [(8, .int (x2 * (x3 - (f_X12_hourOf x7 S)))), (0, .ref 100), (1, .int x1), (2, .int x2), (3, .int x3), (4, .int x4), (5, .int x5), (6, .int x6), (7, .int x7)] [] S R _
                  refine u_st rfl (fun _ => rfl) ?_
                  refine u_st rfl (fun _ => rfl) ?_
                  refine u_lc (b := [(0, .ref 100), (1, .int x1), (2, .int x2), (3, .int x3), (4, .int x4), (5, .int x5), (6, .int x6), (7, .int (x7 + (Int32.ofInt 1))), (8, .int (x2 * (x3 - (f_X12_hourOf x7 S))))]) (show ([7, 8, 0, 1, 2, 3, 4, 5, 6] : List Nat).Nodup by decide) (show ([0, 1, 2, 3, 4, 5, 6, 7, 8] : List Nat).Nodup by decide) (fun i => match i with | 0 => rfl | 1 => rfl | 2 => rfl | 3 => rfl | 4 => rfl | 5 => rfl | 6 => rfl | 7 => rfl | 8 => rfl | _ + 9 => rfl) ?_
                  exact (ih m hm).2.2 d (x2 * (x3 - (f_X12_hourOf x7 S))) x1 x2 x3 x4 x5 x6 (x7 + (Int32.ofInt 1)) S hD
                · have hD := hD.2 h60
                  show u_P L xs m d m_X12_escaped 287 [(8, .int (x2 * (x3 - (f_X12_hourOf x7 S)))), (0, .ref 100), (1, .int x1), (2, .int x2), (3, .int x3), (4, .int x4), (5, .int x5), (6, .int x6), (7, .int x7)] [] S R _
                  refine u_st rfl (fun _ => rfl) ?_
                  show u_P L xs m d m_X12_escaped 289 [(8, .int (x2 * (x3 - (f_X12_hourOf x7 S)))), (0, .ref 100), (1, .int x1), (2, .int x2), (3, .int x3), (4, .int x4), (5, .int x5), (6, .int x6), (7, .int x7)] [.int x7] S R _
                  refine u_if_eq rfl (fun h61 => ?_) (fun h61 => ?_)
                  · have hD := hD.1 h61
                    show u_P L xs m d m_X12_escaped 304 [(8, .int (x2 * (x3 - (f_X12_hourOf x7 S)))), (0, .ref 100), (1, .int x1), (2, .int x2), (3, .int x3), (4, .int x4), (5, .int x5), (6, .int x6), (7, .int x7)] [] S R _
                    refine u_st rfl (fun _ => rfl) ?_
                    refine u_st rfl (fun _ => rfl) ?_
                    show u_P L xs m d m_X12_escaped 307 [(8, .int (x2 * (x3 - (f_X12_hourOf x7 S)))), (0, .ref 100), (1, .int x1), (2, .int x2), (3, .int x3), (4, .int x4), (5, .int x5), (6, .int x6), (7, .int x7)] [.ref 100, .int x5] S R _
                    refine u_getr rfl v_tyM rfl ?_
                    refine u_st rfl (fun _ => rfl) ?_
                    show u_P L xs m d m_X12_escaped 312 [(8, .int (x2 * (x3 - (f_X12_hourOf x7 S)))), (0, .ref 100), (1, .int x1), (2, .int x2), (3, .int x3), (4, .int x4), (5, .int x5), (6, .int x6), (7, .int x7)] [.int x7, .ref 170, .int x5] S R _
                    refine u_ialdE (v := S 169 x7.toInt.toNat) rfl rfl rfl (fun b621 b622 => ?_)
                    have hD := hD b621 b622
                    show u_P L xs m d m_X12_escaped 313 [(8, .int (x2 * (x3 - (f_X12_hourOf x7 S)))), (0, .ref 100), (1, .int x1), (2, .int x2), (3, .int x3), (4, .int x4), (5, .int x5), (6, .int x6), (7, .int x7)] [.int (S 169 x7.toInt.toNat), .int x5] S R _
                    refine u_st rfl (fun _ => rfl) ?_
                    refine u_st rfl (fun _ => rfl) ?_
                    show u_P L xs m d m_X12_escaped 316 [(8, .int (x2 * (x3 - (f_X12_hourOf x7 S)))), (0, .ref 100), (1, .int x1), (2, .int x2), (3, .int x3), (4, .int x4), (5, .int x5), (6, .int x6), (7, .int x7)] [.int ((S 169 x7.toInt.toNat) - (x2 * (x3 - (f_X12_hourOf x7 S)))), .int x5] S R _
                    refine u_cs (ac := [.int x5, .int ((S 169 x7.toInt.toNat) - (x2 * (x3 - (f_X12_hourOf x7 S))))]) (rest := []) rfl (by decide) mt_X12_higher (fun _ => rfl) (Nat.le_of_ble_eq_true rfl) (Nat.le_of_ble_eq_true rfl) (fun d' => c_X12_higher L xs m d' x5 ((S 169 x7.toInt.toNat) - (x2 * (x3 - (f_X12_hourOf x7 S)))) S R) ?_
                    rintro _ _ _ ⟨_, rfl, rfl, rfl, rfl⟩
                    refine u_st rfl (fun _ => rfl) ?_
                    refine u_st rfl (fun _ => rfl) ?_
                    refine u_st rfl (fun _ => rfl) ?_
                    show u_P L xs m d m_X12_escaped 324 [(5, .int (f_X12_higher x5 ((S 169 x7.toInt.toNat) - (x2 * (x3 - (f_X12_hourOf x7 S)))))), (8, .int (x2 * (x3 - (f_X12_hourOf x7 S)))), (0, .ref 100), (1, .int x1), (2, .int x2), (3, .int x3), (4, .int x4), (6, .int x6), (7, .int x7)] [.ref 100, .int x6] S R _
                    refine u_getr rfl v_tyM rfl ?_
                    refine u_st rfl (fun _ => rfl) ?_
                    show u_P L xs m d m_X12_escaped 329 [(5, .int (f_X12_higher x5 ((S 169 x7.toInt.toNat) - (x2 * (x3 - (f_X12_hourOf x7 S)))))), (8, .int (x2 * (x3 - (f_X12_hourOf x7 S)))), (0, .ref 100), (1, .int x1), (2, .int x2), (3, .int x3), (4, .int x4), (6, .int x6), (7, .int x7)] [.int x7, .ref 171, .int x6] S R _
                    refine u_ialdE (v := S 170 x7.toInt.toNat) rfl rfl rfl (fun b631 b632 => ?_)
                    have hD := hD b631 b632
                    show u_P L xs m d m_X12_escaped 330 [(5, .int (f_X12_higher x5 ((S 169 x7.toInt.toNat) - (x2 * (x3 - (f_X12_hourOf x7 S)))))), (8, .int (x2 * (x3 - (f_X12_hourOf x7 S)))), (0, .ref 100), (1, .int x1), (2, .int x2), (3, .int x3), (4, .int x4), (6, .int x6), (7, .int x7)] [.int (S 170 x7.toInt.toNat), .int x6] S R _
                    refine u_st rfl (fun _ => rfl) ?_
                    refine u_st rfl (fun _ => rfl) ?_
                    show u_P L xs m d m_X12_escaped 333 [(5, .int (f_X12_higher x5 ((S 169 x7.toInt.toNat) - (x2 * (x3 - (f_X12_hourOf x7 S)))))), (8, .int (x2 * (x3 - (f_X12_hourOf x7 S)))), (0, .ref 100), (1, .int x1), (2, .int x2), (3, .int x3), (4, .int x4), (6, .int x6), (7, .int x7)] [.int ((S 170 x7.toInt.toNat) + (x2 * (x3 - (f_X12_hourOf x7 S)))), .int x6] S R _
                    refine u_cs (ac := [.int x6, .int ((S 170 x7.toInt.toNat) + (x2 * (x3 - (f_X12_hourOf x7 S))))]) (rest := []) rfl (by decide) mt_X12_lower (fun _ => rfl) (Nat.le_of_ble_eq_true rfl) (Nat.le_of_ble_eq_true rfl) (fun d' => c_X12_lower L xs m d' x6 ((S 170 x7.toInt.toNat) + (x2 * (x3 - (f_X12_hourOf x7 S)))) S R) ?_
                    rintro _ _ _ ⟨_, rfl, rfl, rfl, rfl⟩
                    refine u_st rfl (fun _ => rfl) ?_
                    refine u_st rfl (fun _ => rfl) ?_
                    refine u_st rfl (fun _ => rfl) ?_
                    refine u_lc (b := [(0, .ref 100), (1, .int x1), (2, .int x2), (3, .int x3), (4, .int x4), (5, .int (f_X12_higher x5 ((S 169 x7.toInt.toNat) - (x2 * (x3 - (f_X12_hourOf x7 S)))))), (6, .int (f_X12_lower x6 ((S 170 x7.toInt.toNat) + (x2 * (x3 - (f_X12_hourOf x7 S)))))), (7, .int (x7 + (Int32.ofInt 1))), (8, .int (x2 * (x3 - (f_X12_hourOf x7 S))))]) (show ([7, 6, 5, 8, 0, 1, 2, 3, 4] : List Nat).Nodup by decide) (show ([0, 1, 2, 3, 4, 5, 6, 7, 8] : List Nat).Nodup by decide) (fun i => match i with | 0 => rfl | 1 => rfl | 2 => rfl | 3 => rfl | 4 => rfl | 5 => rfl | 6 => rfl | 7 => rfl | 8 => rfl | _ + 9 => rfl) ?_
                    exact (ih m hm).2.2 d (x2 * (x3 - (f_X12_hourOf x7 S))) x1 x2 x3 x4 (f_X12_higher x5 ((S 169 x7.toInt.toNat) - (x2 * (x3 - (f_X12_hourOf x7 S))))) (f_X12_lower x6 ((S 170 x7.toInt.toNat) + (x2 * (x3 - (f_X12_hourOf x7 S))))) (x7 + (Int32.ofInt 1)) S hD
                  · have hD := hD.2 h61
                    show u_P L xs m d m_X12_escaped 292 [(8, .int (x2 * (x3 - (f_X12_hourOf x7 S)))), (0, .ref 100), (1, .int x1), (2, .int x2), (3, .int x3), (4, .int x4), (5, .int x5), (6, .int x6), (7, .int x7)] [] S R _
                    refine u_st rfl (fun _ => rfl) ?_
                    refine u_st rfl (fun _ => rfl) ?_
                    refine u_st rfl (fun _ => rfl) ?_
                    refine u_st rfl (fun _ => rfl) ?_
                    show u_P L xs m d m_X12_escaped 297 [(8, .int (x2 * (x3 - (f_X12_hourOf x7 S)))), (0, .ref 100), (1, .int x1), (2, .int x2), (3, .int x3), (4, .int x4), (5, .int x5), (6, .int x6), (7, .int x7)] [.int (x7 - (Int32.ofInt 1)), .ref 100] S R _
                    refine u_cv (rest := []) rfl (by decide) mt_X12_hourOf v_tyM rfl rfl rfl (Nat.le_of_ble_eq_true rfl) (Nat.le_of_ble_eq_true rfl) (Nat.le_of_ble_eq_true rfl) (fun d' => c_X12_hourOf L xs m d' (x7 - (Int32.ofInt 1)) S R) ?_
                    rintro _ _ _ ⟨_, rfl, rfl, rfl, rfl⟩
                    refine u_st rfl (fun _ => rfl) ?_
                    show u_P L xs m d m_X12_escaped 301 [(8, .int (x2 * (x3 - (f_X12_hourOf x7 S)))), (0, .ref 100), (1, .int x1), (2, .int x2), (3, .int x3), (4, .int x4), (5, .int x5), (6, .int x6), (7, .int x7)] [.int x3, .int (f_X12_hourOf (x7 - (Int32.ofInt 1)) S)] S R _
                    refine u_ic_gt rfl (fun h64 => ?_) (fun h64 => ?_)
                    · have hD := hD.1 h64
                      show u_P L xs m d m_X12_escaped 338 [(8, .int (x2 * (x3 - (f_X12_hourOf x7 S)))), (0, .ref 100), (1, .int x1), (2, .int x2), (3, .int x3), (4, .int x4), (5, .int x5), (6, .int x6), (7, .int x7)] [] S R _
                      refine u_st rfl (fun _ => rfl) ?_
                      refine u_st rfl (fun _ => rfl) ?_
                      refine u_lc (b := [(0, .ref 100), (1, .int x1), (2, .int x2), (3, .int x3), (4, .int x4), (5, .int x5), (6, .int x6), (7, .int (x7 + (Int32.ofInt 1))), (8, .int (x2 * (x3 - (f_X12_hourOf x7 S))))]) (show ([7, 8, 0, 1, 2, 3, 4, 5, 6] : List Nat).Nodup by decide) (show ([0, 1, 2, 3, 4, 5, 6, 7, 8] : List Nat).Nodup by decide) (fun i => match i with | 0 => rfl | 1 => rfl | 2 => rfl | 3 => rfl | 4 => rfl | 5 => rfl | 6 => rfl | 7 => rfl | 8 => rfl | _ + 9 => rfl) ?_
                      exact (ih m hm).2.2 d (x2 * (x3 - (f_X12_hourOf x7 S))) x1 x2 x3 x4 x5 x6 (x7 + (Int32.ofInt 1)) S hD
                    · have hD := hD.2 h64
                      show u_P L xs m d m_X12_escaped 304 [(8, .int (x2 * (x3 - (f_X12_hourOf x7 S)))), (0, .ref 100), (1, .int x1), (2, .int x2), (3, .int x3), (4, .int x4), (5, .int x5), (6, .int x6), (7, .int x7)] [] S R _
                      refine u_st rfl (fun _ => rfl) ?_
                      refine u_st rfl (fun _ => rfl) ?_
                      show u_P L xs m d m_X12_escaped 307 [(8, .int (x2 * (x3 - (f_X12_hourOf x7 S)))), (0, .ref 100), (1, .int x1), (2, .int x2), (3, .int x3), (4, .int x4), (5, .int x5), (6, .int x6), (7, .int x7)] [.ref 100, .int x5] S R _
                      refine u_getr rfl v_tyM rfl ?_
                      refine u_st rfl (fun _ => rfl) ?_
                      show u_P L xs m d m_X12_escaped 312 [(8, .int (x2 * (x3 - (f_X12_hourOf x7 S)))), (0, .ref 100), (1, .int x1), (2, .int x2), (3, .int x3), (4, .int x4), (5, .int x5), (6, .int x6), (7, .int x7)] [.int x7, .ref 170, .int x5] S R _
                      refine u_ialdE (v := S 169 x7.toInt.toNat) rfl rfl rfl (fun b651 b652 => ?_)
                      have hD := hD b651 b652
                      show u_P L xs m d m_X12_escaped 313 [(8, .int (x2 * (x3 - (f_X12_hourOf x7 S)))), (0, .ref 100), (1, .int x1), (2, .int x2), (3, .int x3), (4, .int x4), (5, .int x5), (6, .int x6), (7, .int x7)] [.int (S 169 x7.toInt.toNat), .int x5] S R _
                      refine u_st rfl (fun _ => rfl) ?_
                      refine u_st rfl (fun _ => rfl) ?_
                      show u_P L xs m d m_X12_escaped 316 [(8, .int (x2 * (x3 - (f_X12_hourOf x7 S)))), (0, .ref 100), (1, .int x1), (2, .int x2), (3, .int x3), (4, .int x4), (5, .int x5), (6, .int x6), (7, .int x7)] [.int ((S 169 x7.toInt.toNat) - (x2 * (x3 - (f_X12_hourOf x7 S)))), .int x5] S R _
                      refine u_cs (ac := [.int x5, .int ((S 169 x7.toInt.toNat) - (x2 * (x3 - (f_X12_hourOf x7 S))))]) (rest := []) rfl (by decide) mt_X12_higher (fun _ => rfl) (Nat.le_of_ble_eq_true rfl) (Nat.le_of_ble_eq_true rfl) (fun d' => c_X12_higher L xs m d' x5 ((S 169 x7.toInt.toNat) - (x2 * (x3 - (f_X12_hourOf x7 S)))) S R) ?_
                      rintro _ _ _ ⟨_, rfl, rfl, rfl, rfl⟩
                      refine u_st rfl (fun _ => rfl) ?_
                      refine u_st rfl (fun _ => rfl) ?_
                      refine u_st rfl (fun _ => rfl) ?_
                      show u_P L xs m d m_X12_escaped 324 [(5, .int (f_X12_higher x5 ((S 169 x7.toInt.toNat) - (x2 * (x3 - (f_X12_hourOf x7 S)))))), (8, .int (x2 * (x3 - (f_X12_hourOf x7 S)))), (0, .ref 100), (1, .int x1), (2, .int x2), (3, .int x3), (4, .int x4), (6, .int x6), (7, .int x7)] [.ref 100, .int x6] S R _
                      refine u_getr rfl v_tyM rfl ?_
                      refine u_st rfl (fun _ => rfl) ?_
                      show u_P L xs m d m_X12_escaped 329 [(5, .int (f_X12_higher x5 ((S 169 x7.toInt.toNat) - (x2 * (x3 - (f_X12_hourOf x7 S)))))), (8, .int (x2 * (x3 - (f_X12_hourOf x7 S)))), (0, .ref 100), (1, .int x1), (2, .int x2), (3, .int x3), (4, .int x4), (6, .int x6), (7, .int x7)] [.int x7, .ref 171, .int x6] S R _
                      refine u_ialdE (v := S 170 x7.toInt.toNat) rfl rfl rfl (fun b661 b662 => ?_)
                      have hD := hD b661 b662
                      show u_P L xs m d m_X12_escaped 330 [(5, .int (f_X12_higher x5 ((S 169 x7.toInt.toNat) - (x2 * (x3 - (f_X12_hourOf x7 S)))))), (8, .int (x2 * (x3 - (f_X12_hourOf x7 S)))), (0, .ref 100), (1, .int x1), (2, .int x2), (3, .int x3), (4, .int x4), (6, .int x6), (7, .int x7)] [.int (S 170 x7.toInt.toNat), .int x6] S R _
                      refine u_st rfl (fun _ => rfl) ?_
                      refine u_st rfl (fun _ => rfl) ?_
                      show u_P L xs m d m_X12_escaped 333 [(5, .int (f_X12_higher x5 ((S 169 x7.toInt.toNat) - (x2 * (x3 - (f_X12_hourOf x7 S)))))), (8, .int (x2 * (x3 - (f_X12_hourOf x7 S)))), (0, .ref 100), (1, .int x1), (2, .int x2), (3, .int x3), (4, .int x4), (6, .int x6), (7, .int x7)] [.int ((S 170 x7.toInt.toNat) + (x2 * (x3 - (f_X12_hourOf x7 S)))), .int x6] S R _
                      refine u_cs (ac := [.int x6, .int ((S 170 x7.toInt.toNat) + (x2 * (x3 - (f_X12_hourOf x7 S))))]) (rest := []) rfl (by decide) mt_X12_lower (fun _ => rfl) (Nat.le_of_ble_eq_true rfl) (Nat.le_of_ble_eq_true rfl) (fun d' => c_X12_lower L xs m d' x6 ((S 170 x7.toInt.toNat) + (x2 * (x3 - (f_X12_hourOf x7 S)))) S R) ?_
                      rintro _ _ _ ⟨_, rfl, rfl, rfl, rfl⟩
                      refine u_st rfl (fun _ => rfl) ?_
                      refine u_st rfl (fun _ => rfl) ?_
                      refine u_st rfl (fun _ => rfl) ?_
                      refine u_lc (b := [(0, .ref 100), (1, .int x1), (2, .int x2), (3, .int x3), (4, .int x4), (5, .int (f_X12_higher x5 ((S 169 x7.toInt.toNat) - (x2 * (x3 - (f_X12_hourOf x7 S)))))), (6, .int (f_X12_lower x6 ((S 170 x7.toInt.toNat) + (x2 * (x3 - (f_X12_hourOf x7 S)))))), (7, .int (x7 + (Int32.ofInt 1))), (8, .int (x2 * (x3 - (f_X12_hourOf x7 S))))]) (show ([7, 6, 5, 8, 0, 1, 2, 3, 4] : List Nat).Nodup by decide) (show ([0, 1, 2, 3, 4, 5, 6, 7, 8] : List Nat).Nodup by decide) (fun i => match i with | 0 => rfl | 1 => rfl | 2 => rfl | 3 => rfl | 4 => rfl | 5 => rfl | 6 => rfl | 7 => rfl | 8 => rfl | _ + 9 => rfl) ?_
                      exact (ih m hm).2.2 d (x2 * (x3 - (f_X12_hourOf x7 S))) x1 x2 x3 x4 (f_X12_higher x5 ((S 169 x7.toInt.toNat) - (x2 * (x3 - (f_X12_hourOf x7 S))))) (f_X12_lower x6 ((S 170 x7.toInt.toNat) + (x2 * (x3 - (f_X12_hourOf x7 S))))) (x7 + (Int32.ofInt 1)) S hD
              · have hD := hD.2 h59
                show u_P L xs m d m_X12_escaped 243 [(8, .int (x2 * (x3 - (f_X12_hourOf x7 S)))), (0, .ref 100), (1, .int x1), (2, .int x2), (3, .int x3), (4, .int x4), (5, .int x5), (6, .int x6), (7, .int x7)] [] S R _
                refine u_st rfl (fun _ => rfl) ?_
                refine u_st rfl (fun _ => rfl) ?_
                show u_P L xs m d m_X12_escaped 246 [(8, .int (x2 * (x3 - (f_X12_hourOf x7 S)))), (0, .ref 100), (1, .int x1), (2, .int x2), (3, .int x3), (4, .int x4), (5, .int x5), (6, .int x6), (7, .int x7)] [.ref 100, .int x5] S R _
                refine u_getr rfl v_tyM rfl ?_
                refine u_st rfl (fun _ => rfl) ?_
                show u_P L xs m d m_X12_escaped 251 [(8, .int (x2 * (x3 - (f_X12_hourOf x7 S)))), (0, .ref 100), (1, .int x1), (2, .int x2), (3, .int x3), (4, .int x4), (5, .int x5), (6, .int x6), (7, .int x7)] [.int x7, .ref 168, .int x5] S R _
                refine u_ialdE (v := S 167 x7.toInt.toNat) rfl rfl rfl (fun b671 b672 => ?_)
                have hD := hD b671 b672
                show u_P L xs m d m_X12_escaped 252 [(8, .int (x2 * (x3 - (f_X12_hourOf x7 S)))), (0, .ref 100), (1, .int x1), (2, .int x2), (3, .int x3), (4, .int x4), (5, .int x5), (6, .int x6), (7, .int x7)] [.int (S 167 x7.toInt.toNat), .int x5] S R _
                refine u_st rfl (fun _ => rfl) ?_
                refine u_st rfl (fun _ => rfl) ?_
                show u_P L xs m d m_X12_escaped 255 [(8, .int (x2 * (x3 - (f_X12_hourOf x7 S)))), (0, .ref 100), (1, .int x1), (2, .int x2), (3, .int x3), (4, .int x4), (5, .int x5), (6, .int x6), (7, .int x7)] [.int ((S 167 x7.toInt.toNat) - (x2 * (x3 - (f_X12_hourOf x7 S)))), .int x5] S R _
                refine u_cs (ac := [.int x5, .int ((S 167 x7.toInt.toNat) - (x2 * (x3 - (f_X12_hourOf x7 S))))]) (rest := []) rfl (by decide) mt_X12_higher (fun _ => rfl) (Nat.le_of_ble_eq_true rfl) (Nat.le_of_ble_eq_true rfl) (fun d' => c_X12_higher L xs m d' x5 ((S 167 x7.toInt.toNat) - (x2 * (x3 - (f_X12_hourOf x7 S)))) S R) ?_
                rintro _ _ _ ⟨_, rfl, rfl, rfl, rfl⟩
                refine u_st rfl (fun _ => rfl) ?_
                refine u_st rfl (fun _ => rfl) ?_
                refine u_st rfl (fun _ => rfl) ?_
                show u_P L xs m d m_X12_escaped 263 [(5, .int (f_X12_higher x5 ((S 167 x7.toInt.toNat) - (x2 * (x3 - (f_X12_hourOf x7 S)))))), (8, .int (x2 * (x3 - (f_X12_hourOf x7 S)))), (0, .ref 100), (1, .int x1), (2, .int x2), (3, .int x3), (4, .int x4), (6, .int x6), (7, .int x7)] [.ref 100, .int x6] S R _
                refine u_getr rfl v_tyM rfl ?_
                refine u_st rfl (fun _ => rfl) ?_
                show u_P L xs m d m_X12_escaped 268 [(5, .int (f_X12_higher x5 ((S 167 x7.toInt.toNat) - (x2 * (x3 - (f_X12_hourOf x7 S)))))), (8, .int (x2 * (x3 - (f_X12_hourOf x7 S)))), (0, .ref 100), (1, .int x1), (2, .int x2), (3, .int x3), (4, .int x4), (6, .int x6), (7, .int x7)] [.int x7, .ref 169, .int x6] S R _
                refine u_ialdE (v := S 168 x7.toInt.toNat) rfl rfl rfl (fun b681 b682 => ?_)
                have hD := hD b681 b682
                show u_P L xs m d m_X12_escaped 269 [(5, .int (f_X12_higher x5 ((S 167 x7.toInt.toNat) - (x2 * (x3 - (f_X12_hourOf x7 S)))))), (8, .int (x2 * (x3 - (f_X12_hourOf x7 S)))), (0, .ref 100), (1, .int x1), (2, .int x2), (3, .int x3), (4, .int x4), (6, .int x6), (7, .int x7)] [.int (S 168 x7.toInt.toNat), .int x6] S R _
                refine u_st rfl (fun _ => rfl) ?_
                refine u_st rfl (fun _ => rfl) ?_
                show u_P L xs m d m_X12_escaped 272 [(5, .int (f_X12_higher x5 ((S 167 x7.toInt.toNat) - (x2 * (x3 - (f_X12_hourOf x7 S)))))), (8, .int (x2 * (x3 - (f_X12_hourOf x7 S)))), (0, .ref 100), (1, .int x1), (2, .int x2), (3, .int x3), (4, .int x4), (6, .int x6), (7, .int x7)] [.int ((S 168 x7.toInt.toNat) + (x2 * (x3 - (f_X12_hourOf x7 S)))), .int x6] S R _
                refine u_cs (ac := [.int x6, .int ((S 168 x7.toInt.toNat) + (x2 * (x3 - (f_X12_hourOf x7 S))))]) (rest := []) rfl (by decide) mt_X12_lower (fun _ => rfl) (Nat.le_of_ble_eq_true rfl) (Nat.le_of_ble_eq_true rfl) (fun d' => c_X12_lower L xs m d' x6 ((S 168 x7.toInt.toNat) + (x2 * (x3 - (f_X12_hourOf x7 S)))) S R) ?_
                rintro _ _ _ ⟨_, rfl, rfl, rfl, rfl⟩
                refine u_st rfl (fun _ => rfl) ?_
                refine u_st rfl (fun _ => rfl) ?_
                refine u_st rfl (fun _ => rfl) ?_
                show u_P L xs m d m_X12_escaped 280 [(6, .int (f_X12_lower x6 ((S 168 x7.toInt.toNat) + (x2 * (x3 - (f_X12_hourOf x7 S)))))), (5, .int (f_X12_higher x5 ((S 167 x7.toInt.toNat) - (x2 * (x3 - (f_X12_hourOf x7 S)))))), (8, .int (x2 * (x3 - (f_X12_hourOf x7 S)))), (0, .ref 100), (1, .int x1), (2, .int x2), (3, .int x3), (4, .int x4), (7, .int x7)] [.int x7, .ref 100] S R _
                refine u_cv (rest := []) rfl (by decide) mt_X12_hourOf v_tyM rfl rfl rfl (Nat.le_of_ble_eq_true rfl) (Nat.le_of_ble_eq_true rfl) (Nat.le_of_ble_eq_true rfl) (fun d' => c_X12_hourOf L xs m d' x7 S R) ?_
                rintro _ _ _ ⟨_, rfl, rfl, rfl, rfl⟩
                refine u_st rfl (fun _ => rfl) ?_
                show u_P L xs m d m_X12_escaped 284 [(6, .int (f_X12_lower x6 ((S 168 x7.toInt.toNat) + (x2 * (x3 - (f_X12_hourOf x7 S)))))), (5, .int (f_X12_higher x5 ((S 167 x7.toInt.toNat) - (x2 * (x3 - (f_X12_hourOf x7 S)))))), (8, .int (x2 * (x3 - (f_X12_hourOf x7 S)))), (0, .ref 100), (1, .int x1), (2, .int x2), (3, .int x3), (4, .int x4), (7, .int x7)] [.int x3, .int (f_X12_hourOf x7 S)] S R _
                refine u_ic_le rfl (fun h69 => ?_) (fun h69 => ?_)
                · have hD := hD.1 h69
                  show u_P L xs m d m_X12_escaped 338 [(6, .int (f_X12_lower x6 ((S 168 x7.toInt.toNat) + (x2 * (x3 - (f_X12_hourOf x7 S)))))), (5, .int (f_X12_higher x5 ((S 167 x7.toInt.toNat) - (x2 * (x3 - (f_X12_hourOf x7 S)))))), (8, .int (x2 * (x3 - (f_X12_hourOf x7 S)))), (0, .ref 100), (1, .int x1), (2, .int x2), (3, .int x3), (4, .int x4), (7, .int x7)] [] S R _
                  refine u_st rfl (fun _ => rfl) ?_
                  refine u_st rfl (fun _ => rfl) ?_
                  refine u_lc (b := [(0, .ref 100), (1, .int x1), (2, .int x2), (3, .int x3), (4, .int x4), (5, .int (f_X12_higher x5 ((S 167 x7.toInt.toNat) - (x2 * (x3 - (f_X12_hourOf x7 S)))))), (6, .int (f_X12_lower x6 ((S 168 x7.toInt.toNat) + (x2 * (x3 - (f_X12_hourOf x7 S)))))), (7, .int (x7 + (Int32.ofInt 1))), (8, .int (x2 * (x3 - (f_X12_hourOf x7 S))))]) (show ([7, 6, 5, 8, 0, 1, 2, 3, 4] : List Nat).Nodup by decide) (show ([0, 1, 2, 3, 4, 5, 6, 7, 8] : List Nat).Nodup by decide) (fun i => match i with | 0 => rfl | 1 => rfl | 2 => rfl | 3 => rfl | 4 => rfl | 5 => rfl | 6 => rfl | 7 => rfl | 8 => rfl | _ + 9 => rfl) ?_
                  exact (ih m hm).2.2 d (x2 * (x3 - (f_X12_hourOf x7 S))) x1 x2 x3 x4 (f_X12_higher x5 ((S 167 x7.toInt.toNat) - (x2 * (x3 - (f_X12_hourOf x7 S))))) (f_X12_lower x6 ((S 168 x7.toInt.toNat) + (x2 * (x3 - (f_X12_hourOf x7 S))))) (x7 + (Int32.ofInt 1)) S hD
                · have hD := hD.2 h69
                  show u_P L xs m d m_X12_escaped 287 [(6, .int (f_X12_lower x6 ((S 168 x7.toInt.toNat) + (x2 * (x3 - (f_X12_hourOf x7 S)))))), (5, .int (f_X12_higher x5 ((S 167 x7.toInt.toNat) - (x2 * (x3 - (f_X12_hourOf x7 S)))))), (8, .int (x2 * (x3 - (f_X12_hourOf x7 S)))), (0, .ref 100), (1, .int x1), (2, .int x2), (3, .int x3), (4, .int x4), (7, .int x7)] [] S R _
                  refine u_st rfl (fun _ => rfl) ?_
                  show u_P L xs m d m_X12_escaped 289 [(6, .int (f_X12_lower x6 ((S 168 x7.toInt.toNat) + (x2 * (x3 - (f_X12_hourOf x7 S)))))), (5, .int (f_X12_higher x5 ((S 167 x7.toInt.toNat) - (x2 * (x3 - (f_X12_hourOf x7 S)))))), (8, .int (x2 * (x3 - (f_X12_hourOf x7 S)))), (0, .ref 100), (1, .int x1), (2, .int x2), (3, .int x3), (4, .int x4), (7, .int x7)] [.int x7] S R _
                  refine u_if_eq rfl (fun h70 => ?_) (fun h70 => ?_)
                  · have hD := hD.1 h70
                    show u_P L xs m d m_X12_escaped 304 [(6, .int (f_X12_lower x6 ((S 168 x7.toInt.toNat) + (x2 * (x3 - (f_X12_hourOf x7 S)))))), (5, .int (f_X12_higher x5 ((S 167 x7.toInt.toNat) - (x2 * (x3 - (f_X12_hourOf x7 S)))))), (8, .int (x2 * (x3 - (f_X12_hourOf x7 S)))), (0, .ref 100), (1, .int x1), (2, .int x2), (3, .int x3), (4, .int x4), (7, .int x7)] [] S R _
                    refine u_st rfl (fun _ => rfl) ?_
                    refine u_st rfl (fun _ => rfl) ?_
                    show u_P L xs m d m_X12_escaped 307 [(6, .int (f_X12_lower x6 ((S 168 x7.toInt.toNat) + (x2 * (x3 - (f_X12_hourOf x7 S)))))), (5, .int (f_X12_higher x5 ((S 167 x7.toInt.toNat) - (x2 * (x3 - (f_X12_hourOf x7 S)))))), (8, .int (x2 * (x3 - (f_X12_hourOf x7 S)))), (0, .ref 100), (1, .int x1), (2, .int x2), (3, .int x3), (4, .int x4), (7, .int x7)] [.ref 100, .int (f_X12_higher x5 ((S 167 x7.toInt.toNat) - (x2 * (x3 - (f_X12_hourOf x7 S)))))] S R _
                    refine u_getr rfl v_tyM rfl ?_
                    refine u_st rfl (fun _ => rfl) ?_
                    show u_P L xs m d m_X12_escaped 312 [(6, .int (f_X12_lower x6 ((S 168 x7.toInt.toNat) + (x2 * (x3 - (f_X12_hourOf x7 S)))))), (5, .int (f_X12_higher x5 ((S 167 x7.toInt.toNat) - (x2 * (x3 - (f_X12_hourOf x7 S)))))), (8, .int (x2 * (x3 - (f_X12_hourOf x7 S)))), (0, .ref 100), (1, .int x1), (2, .int x2), (3, .int x3), (4, .int x4), (7, .int x7)] [.int x7, .ref 170, .int (f_X12_higher x5 ((S 167 x7.toInt.toNat) - (x2 * (x3 - (f_X12_hourOf x7 S)))))] S R _
                    refine u_ialdE (v := S 169 x7.toInt.toNat) rfl rfl rfl (fun b711 b712 => ?_)
                    have hD := hD b711 b712
                    show u_P L xs m d m_X12_escaped 313 [(6, .int (f_X12_lower x6 ((S 168 x7.toInt.toNat) + (x2 * (x3 - (f_X12_hourOf x7 S)))))), (5, .int (f_X12_higher x5 ((S 167 x7.toInt.toNat) - (x2 * (x3 - (f_X12_hourOf x7 S)))))), (8, .int (x2 * (x3 - (f_X12_hourOf x7 S)))), (0, .ref 100), (1, .int x1), (2, .int x2), (3, .int x3), (4, .int x4), (7, .int x7)] [.int (S 169 x7.toInt.toNat), .int (f_X12_higher x5 ((S 167 x7.toInt.toNat) - (x2 * (x3 - (f_X12_hourOf x7 S)))))] S R _
                    refine u_st rfl (fun _ => rfl) ?_
                    refine u_st rfl (fun _ => rfl) ?_
                    show u_P L xs m d m_X12_escaped 316 [(6, .int (f_X12_lower x6 ((S 168 x7.toInt.toNat) + (x2 * (x3 - (f_X12_hourOf x7 S)))))), (5, .int (f_X12_higher x5 ((S 167 x7.toInt.toNat) - (x2 * (x3 - (f_X12_hourOf x7 S)))))), (8, .int (x2 * (x3 - (f_X12_hourOf x7 S)))), (0, .ref 100), (1, .int x1), (2, .int x2), (3, .int x3), (4, .int x4), (7, .int x7)] [.int ((S 169 x7.toInt.toNat) - (x2 * (x3 - (f_X12_hourOf x7 S)))), .int (f_X12_higher x5 ((S 167 x7.toInt.toNat) - (x2 * (x3 - (f_X12_hourOf x7 S)))))] S R _
                    refine u_cs (ac := [.int (f_X12_higher x5 ((S 167 x7.toInt.toNat) - (x2 * (x3 - (f_X12_hourOf x7 S))))), .int ((S 169 x7.toInt.toNat) - (x2 * (x3 - (f_X12_hourOf x7 S))))]) (rest := []) rfl (by decide) mt_X12_higher (fun _ => rfl) (Nat.le_of_ble_eq_true rfl) (Nat.le_of_ble_eq_true rfl) (fun d' => c_X12_higher L xs m d' (f_X12_higher x5 ((S 167 x7.toInt.toNat) - (x2 * (x3 - (f_X12_hourOf x7 S))))) ((S 169 x7.toInt.toNat) - (x2 * (x3 - (f_X12_hourOf x7 S)))) S R) ?_
                    rintro _ _ _ ⟨_, rfl, rfl, rfl, rfl⟩
                    refine u_st rfl (fun _ => rfl) ?_
                    refine u_st rfl (fun _ => rfl) ?_
                    refine u_st rfl (fun _ => rfl) ?_
                    show u_P L xs m d m_X12_escaped 324 [(5, .int (f_X12_higher (f_X12_higher x5 ((S 167 x7.toInt.toNat) - (x2 * (x3 - (f_X12_hourOf x7 S))))) ((S 169 x7.toInt.toNat) - (x2 * (x3 - (f_X12_hourOf x7 S)))))), (6, .int (f_X12_lower x6 ((S 168 x7.toInt.toNat) + (x2 * (x3 - (f_X12_hourOf x7 S)))))), (8, .int (x2 * (x3 - (f_X12_hourOf x7 S)))), (0, .ref 100), (1, .int x1), (2, .int x2), (3, .int x3), (4, .int x4), (7, .int x7)] [.ref 100, .int (f_X12_lower x6 ((S 168 x7.toInt.toNat) + (x2 * (x3 - (f_X12_hourOf x7 S)))))] S R _
                    refine u_getr rfl v_tyM rfl ?_
                    refine u_st rfl (fun _ => rfl) ?_
                    show u_P L xs m d m_X12_escaped 329 [(5, .int (f_X12_higher (f_X12_higher x5 ((S 167 x7.toInt.toNat) - (x2 * (x3 - (f_X12_hourOf x7 S))))) ((S 169 x7.toInt.toNat) - (x2 * (x3 - (f_X12_hourOf x7 S)))))), (6, .int (f_X12_lower x6 ((S 168 x7.toInt.toNat) + (x2 * (x3 - (f_X12_hourOf x7 S)))))), (8, .int (x2 * (x3 - (f_X12_hourOf x7 S)))), (0, .ref 100), (1, .int x1), (2, .int x2), (3, .int x3), (4, .int x4), (7, .int x7)] [.int x7, .ref 171, .int (f_X12_lower x6 ((S 168 x7.toInt.toNat) + (x2 * (x3 - (f_X12_hourOf x7 S)))))] S R _
                    refine u_ialdE (v := S 170 x7.toInt.toNat) rfl rfl rfl (fun b721 b722 => ?_)
                    have hD := hD b721 b722
                    show u_P L xs m d m_X12_escaped 330 [(5, .int (f_X12_higher (f_X12_higher x5 ((S 167 x7.toInt.toNat) - (x2 * (x3 - (f_X12_hourOf x7 S))))) ((S 169 x7.toInt.toNat) - (x2 * (x3 - (f_X12_hourOf x7 S)))))), (6, .int (f_X12_lower x6 ((S 168 x7.toInt.toNat) + (x2 * (x3 - (f_X12_hourOf x7 S)))))), (8, .int (x2 * (x3 - (f_X12_hourOf x7 S)))), (0, .ref 100), (1, .int x1), (2, .int x2), (3, .int x3), (4, .int x4), (7, .int x7)] [.int (S 170 x7.toInt.toNat), .int (f_X12_lower x6 ((S 168 x7.toInt.toNat) + (x2 * (x3 - (f_X12_hourOf x7 S)))))] S R _
                    refine u_st rfl (fun _ => rfl) ?_
                    refine u_st rfl (fun _ => rfl) ?_
                    show u_P L xs m d m_X12_escaped 333 [(5, .int (f_X12_higher (f_X12_higher x5 ((S 167 x7.toInt.toNat) - (x2 * (x3 - (f_X12_hourOf x7 S))))) ((S 169 x7.toInt.toNat) - (x2 * (x3 - (f_X12_hourOf x7 S)))))), (6, .int (f_X12_lower x6 ((S 168 x7.toInt.toNat) + (x2 * (x3 - (f_X12_hourOf x7 S)))))), (8, .int (x2 * (x3 - (f_X12_hourOf x7 S)))), (0, .ref 100), (1, .int x1), (2, .int x2), (3, .int x3), (4, .int x4), (7, .int x7)] [.int ((S 170 x7.toInt.toNat) + (x2 * (x3 - (f_X12_hourOf x7 S)))), .int (f_X12_lower x6 ((S 168 x7.toInt.toNat) + (x2 * (x3 - (f_X12_hourOf x7 S)))))] S R _
                    refine u_cs (ac := [.int (f_X12_lower x6 ((S 168 x7.toInt.toNat) + (x2 * (x3 - (f_X12_hourOf x7 S))))), .int ((S 170 x7.toInt.toNat) + (x2 * (x3 - (f_X12_hourOf x7 S))))]) (rest := []) rfl (by decide) mt_X12_lower (fun _ => rfl) (Nat.le_of_ble_eq_true rfl) (Nat.le_of_ble_eq_true rfl) (fun d' => c_X12_lower L xs m d' (f_X12_lower x6 ((S 168 x7.toInt.toNat) + (x2 * (x3 - (f_X12_hourOf x7 S))))) ((S 170 x7.toInt.toNat) + (x2 * (x3 - (f_X12_hourOf x7 S)))) S R) ?_
                    rintro _ _ _ ⟨_, rfl, rfl, rfl, rfl⟩
                    refine u_st rfl (fun _ => rfl) ?_
                    refine u_st rfl (fun _ => rfl) ?_
                    refine u_st rfl (fun _ => rfl) ?_
                    refine u_lc (b := [(0, .ref 100), (1, .int x1), (2, .int x2), (3, .int x3), (4, .int x4), (5, .int (f_X12_higher (f_X12_higher x5 ((S 167 x7.toInt.toNat) - (x2 * (x3 - (f_X12_hourOf x7 S))))) ((S 169 x7.toInt.toNat) - (x2 * (x3 - (f_X12_hourOf x7 S)))))), (6, .int (f_X12_lower (f_X12_lower x6 ((S 168 x7.toInt.toNat) + (x2 * (x3 - (f_X12_hourOf x7 S))))) ((S 170 x7.toInt.toNat) + (x2 * (x3 - (f_X12_hourOf x7 S)))))), (7, .int (x7 + (Int32.ofInt 1))), (8, .int (x2 * (x3 - (f_X12_hourOf x7 S))))]) (show ([7, 6, 5, 8, 0, 1, 2, 3, 4] : List Nat).Nodup by decide) (show ([0, 1, 2, 3, 4, 5, 6, 7, 8] : List Nat).Nodup by decide) (fun i => match i with | 0 => rfl | 1 => rfl | 2 => rfl | 3 => rfl | 4 => rfl | 5 => rfl | 6 => rfl | 7 => rfl | 8 => rfl | _ + 9 => rfl) ?_
                    exact (ih m hm).2.2 d (x2 * (x3 - (f_X12_hourOf x7 S))) x1 x2 x3 x4 (f_X12_higher (f_X12_higher x5 ((S 167 x7.toInt.toNat) - (x2 * (x3 - (f_X12_hourOf x7 S))))) ((S 169 x7.toInt.toNat) - (x2 * (x3 - (f_X12_hourOf x7 S))))) (f_X12_lower (f_X12_lower x6 ((S 168 x7.toInt.toNat) + (x2 * (x3 - (f_X12_hourOf x7 S))))) ((S 170 x7.toInt.toNat) + (x2 * (x3 - (f_X12_hourOf x7 S))))) (x7 + (Int32.ofInt 1)) S hD
                  · have hD := hD.2 h70
                    show u_P L xs m d m_X12_escaped 292 [(6, .int (f_X12_lower x6 ((S 168 x7.toInt.toNat) + (x2 * (x3 - (f_X12_hourOf x7 S)))))), (5, .int (f_X12_higher x5 ((S 167 x7.toInt.toNat) - (x2 * (x3 - (f_X12_hourOf x7 S)))))), (8, .int (x2 * (x3 - (f_X12_hourOf x7 S)))), (0, .ref 100), (1, .int x1), (2, .int x2), (3, .int x3), (4, .int x4), (7, .int x7)] [] S R _
                    refine u_st rfl (fun _ => rfl) ?_
                    refine u_st rfl (fun _ => rfl) ?_
                    refine u_st rfl (fun _ => rfl) ?_
                    refine u_st rfl (fun _ => rfl) ?_
                    show u_P L xs m d m_X12_escaped 297 [(6, .int (f_X12_lower x6 ((S 168 x7.toInt.toNat) + (x2 * (x3 - (f_X12_hourOf x7 S)))))), (5, .int (f_X12_higher x5 ((S 167 x7.toInt.toNat) - (x2 * (x3 - (f_X12_hourOf x7 S)))))), (8, .int (x2 * (x3 - (f_X12_hourOf x7 S)))), (0, .ref 100), (1, .int x1), (2, .int x2), (3, .int x3), (4, .int x4), (7, .int x7)] [.int (x7 - (Int32.ofInt 1)), .ref 100] S R _
                    refine u_cv (rest := []) rfl (by decide) mt_X12_hourOf v_tyM rfl rfl rfl (Nat.le_of_ble_eq_true rfl) (Nat.le_of_ble_eq_true rfl) (Nat.le_of_ble_eq_true rfl) (fun d' => c_X12_hourOf L xs m d' (x7 - (Int32.ofInt 1)) S R) ?_
                    rintro _ _ _ ⟨_, rfl, rfl, rfl, rfl⟩
                    refine u_st rfl (fun _ => rfl) ?_
                    show u_P L xs m d m_X12_escaped 301 [(6, .int (f_X12_lower x6 ((S 168 x7.toInt.toNat) + (x2 * (x3 - (f_X12_hourOf x7 S)))))), (5, .int (f_X12_higher x5 ((S 167 x7.toInt.toNat) - (x2 * (x3 - (f_X12_hourOf x7 S)))))), (8, .int (x2 * (x3 - (f_X12_hourOf x7 S)))), (0, .ref 100), (1, .int x1), (2, .int x2), (3, .int x3), (4, .int x4), (7, .int x7)] [.int x3, .int (f_X12_hourOf (x7 - (Int32.ofInt 1)) S)] S R _
                    refine u_ic_gt rfl (fun h73 => ?_) (fun h73 => ?_)
                    · have hD := hD.1 h73
                      show u_P L xs m d m_X12_escaped 338 [(6, .int (f_X12_lower x6 ((S 168 x7.toInt.toNat) + (x2 * (x3 - (f_X12_hourOf x7 S)))))), (5, .int (f_X12_higher x5 ((S 167 x7.toInt.toNat) - (x2 * (x3 - (f_X12_hourOf x7 S)))))), (8, .int (x2 * (x3 - (f_X12_hourOf x7 S)))), (0, .ref 100), (1, .int x1), (2, .int x2), (3, .int x3), (4, .int x4), (7, .int x7)] [] S R _
                      refine u_st rfl (fun _ => rfl) ?_
                      refine u_st rfl (fun _ => rfl) ?_
                      refine u_lc (b := [(0, .ref 100), (1, .int x1), (2, .int x2), (3, .int x3), (4, .int x4), (5, .int (f_X12_higher x5 ((S 167 x7.toInt.toNat) - (x2 * (x3 - (f_X12_hourOf x7 S)))))), (6, .int (f_X12_lower x6 ((S 168 x7.toInt.toNat) + (x2 * (x3 - (f_X12_hourOf x7 S)))))), (7, .int (x7 + (Int32.ofInt 1))), (8, .int (x2 * (x3 - (f_X12_hourOf x7 S))))]) (show ([7, 6, 5, 8, 0, 1, 2, 3, 4] : List Nat).Nodup by decide) (show ([0, 1, 2, 3, 4, 5, 6, 7, 8] : List Nat).Nodup by decide) (fun i => match i with | 0 => rfl | 1 => rfl | 2 => rfl | 3 => rfl | 4 => rfl | 5 => rfl | 6 => rfl | 7 => rfl | 8 => rfl | _ + 9 => rfl) ?_
                      exact (ih m hm).2.2 d (x2 * (x3 - (f_X12_hourOf x7 S))) x1 x2 x3 x4 (f_X12_higher x5 ((S 167 x7.toInt.toNat) - (x2 * (x3 - (f_X12_hourOf x7 S))))) (f_X12_lower x6 ((S 168 x7.toInt.toNat) + (x2 * (x3 - (f_X12_hourOf x7 S))))) (x7 + (Int32.ofInt 1)) S hD
                    · have hD := hD.2 h73
                      show u_P L xs m d m_X12_escaped 304 [(6, .int (f_X12_lower x6 ((S 168 x7.toInt.toNat) + (x2 * (x3 - (f_X12_hourOf x7 S)))))), (5, .int (f_X12_higher x5 ((S 167 x7.toInt.toNat) - (x2 * (x3 - (f_X12_hourOf x7 S)))))), (8, .int (x2 * (x3 - (f_X12_hourOf x7 S)))), (0, .ref 100), (1, .int x1), (2, .int x2), (3, .int x3), (4, .int x4), (7, .int x7)] [] S R _
                      refine u_st rfl (fun _ => rfl) ?_
                      refine u_st rfl (fun _ => rfl) ?_
                      show u_P L xs m d m_X12_escaped 307 [(6, .int (f_X12_lower x6 ((S 168 x7.toInt.toNat) + (x2 * (x3 - (f_X12_hourOf x7 S)))))), (5, .int (f_X12_higher x5 ((S 167 x7.toInt.toNat) - (x2 * (x3 - (f_X12_hourOf x7 S)))))), (8, .int (x2 * (x3 - (f_X12_hourOf x7 S)))), (0, .ref 100), (1, .int x1), (2, .int x2), (3, .int x3), (4, .int x4), (7, .int x7)] [.ref 100, .int (f_X12_higher x5 ((S 167 x7.toInt.toNat) - (x2 * (x3 - (f_X12_hourOf x7 S)))))] S R _
                      refine u_getr rfl v_tyM rfl ?_
                      refine u_st rfl (fun _ => rfl) ?_
                      show u_P L xs m d m_X12_escaped 312 [(6, .int (f_X12_lower x6 ((S 168 x7.toInt.toNat) + (x2 * (x3 - (f_X12_hourOf x7 S)))))), (5, .int (f_X12_higher x5 ((S 167 x7.toInt.toNat) - (x2 * (x3 - (f_X12_hourOf x7 S)))))), (8, .int (x2 * (x3 - (f_X12_hourOf x7 S)))), (0, .ref 100), (1, .int x1), (2, .int x2), (3, .int x3), (4, .int x4), (7, .int x7)] [.int x7, .ref 170, .int (f_X12_higher x5 ((S 167 x7.toInt.toNat) - (x2 * (x3 - (f_X12_hourOf x7 S)))))] S R _
                      refine u_ialdE (v := S 169 x7.toInt.toNat) rfl rfl rfl (fun b741 b742 => ?_)
                      have hD := hD b741 b742
                      show u_P L xs m d m_X12_escaped 313 [(6, .int (f_X12_lower x6 ((S 168 x7.toInt.toNat) + (x2 * (x3 - (f_X12_hourOf x7 S)))))), (5, .int (f_X12_higher x5 ((S 167 x7.toInt.toNat) - (x2 * (x3 - (f_X12_hourOf x7 S)))))), (8, .int (x2 * (x3 - (f_X12_hourOf x7 S)))), (0, .ref 100), (1, .int x1), (2, .int x2), (3, .int x3), (4, .int x4), (7, .int x7)] [.int (S 169 x7.toInt.toNat), .int (f_X12_higher x5 ((S 167 x7.toInt.toNat) - (x2 * (x3 - (f_X12_hourOf x7 S)))))] S R _
                      refine u_st rfl (fun _ => rfl) ?_
                      refine u_st rfl (fun _ => rfl) ?_
                      show u_P L xs m d m_X12_escaped 316 [(6, .int (f_X12_lower x6 ((S 168 x7.toInt.toNat) + (x2 * (x3 - (f_X12_hourOf x7 S)))))), (5, .int (f_X12_higher x5 ((S 167 x7.toInt.toNat) - (x2 * (x3 - (f_X12_hourOf x7 S)))))), (8, .int (x2 * (x3 - (f_X12_hourOf x7 S)))), (0, .ref 100), (1, .int x1), (2, .int x2), (3, .int x3), (4, .int x4), (7, .int x7)] [.int ((S 169 x7.toInt.toNat) - (x2 * (x3 - (f_X12_hourOf x7 S)))), .int (f_X12_higher x5 ((S 167 x7.toInt.toNat) - (x2 * (x3 - (f_X12_hourOf x7 S)))))] S R _
                      refine u_cs (ac := [.int (f_X12_higher x5 ((S 167 x7.toInt.toNat) - (x2 * (x3 - (f_X12_hourOf x7 S))))), .int ((S 169 x7.toInt.toNat) - (x2 * (x3 - (f_X12_hourOf x7 S))))]) (rest := []) rfl (by decide) mt_X12_higher (fun _ => rfl) (Nat.le_of_ble_eq_true rfl) (Nat.le_of_ble_eq_true rfl) (fun d' => c_X12_higher L xs m d' (f_X12_higher x5 ((S 167 x7.toInt.toNat) - (x2 * (x3 - (f_X12_hourOf x7 S))))) ((S 169 x7.toInt.toNat) - (x2 * (x3 - (f_X12_hourOf x7 S)))) S R) ?_
                      rintro _ _ _ ⟨_, rfl, rfl, rfl, rfl⟩
                      refine u_st rfl (fun _ => rfl) ?_
                      refine u_st rfl (fun _ => rfl) ?_
                      refine u_st rfl (fun _ => rfl) ?_
                      show u_P L xs m d m_X12_escaped 324 [(5, .int (f_X12_higher (f_X12_higher x5 ((S 167 x7.toInt.toNat) - (x2 * (x3 - (f_X12_hourOf x7 S))))) ((S 169 x7.toInt.toNat) - (x2 * (x3 - (f_X12_hourOf x7 S)))))), (6, .int (f_X12_lower x6 ((S 168 x7.toInt.toNat) + (x2 * (x3 - (f_X12_hourOf x7 S)))))), (8, .int (x2 * (x3 - (f_X12_hourOf x7 S)))), (0, .ref 100), (1, .int x1), (2, .int x2), (3, .int x3), (4, .int x4), (7, .int x7)] [.ref 100, .int (f_X12_lower x6 ((S 168 x7.toInt.toNat) + (x2 * (x3 - (f_X12_hourOf x7 S)))))] S R _
                      refine u_getr rfl v_tyM rfl ?_
                      refine u_st rfl (fun _ => rfl) ?_
                      show u_P L xs m d m_X12_escaped 329 [(5, .int (f_X12_higher (f_X12_higher x5 ((S 167 x7.toInt.toNat) - (x2 * (x3 - (f_X12_hourOf x7 S))))) ((S 169 x7.toInt.toNat) - (x2 * (x3 - (f_X12_hourOf x7 S)))))), (6, .int (f_X12_lower x6 ((S 168 x7.toInt.toNat) + (x2 * (x3 - (f_X12_hourOf x7 S)))))), (8, .int (x2 * (x3 - (f_X12_hourOf x7 S)))), (0, .ref 100), (1, .int x1), (2, .int x2), (3, .int x3), (4, .int x4), (7, .int x7)] [.int x7, .ref 171, .int (f_X12_lower x6 ((S 168 x7.toInt.toNat) + (x2 * (x3 - (f_X12_hourOf x7 S)))))] S R _
                      refine u_ialdE (v := S 170 x7.toInt.toNat) rfl rfl rfl (fun b751 b752 => ?_)
                      have hD := hD b751 b752
                      show u_P L xs m d m_X12_escaped 330 [(5, .int (f_X12_higher (f_X12_higher x5 ((S 167 x7.toInt.toNat) - (x2 * (x3 - (f_X12_hourOf x7 S))))) ((S 169 x7.toInt.toNat) - (x2 * (x3 - (f_X12_hourOf x7 S)))))), (6, .int (f_X12_lower x6 ((S 168 x7.toInt.toNat) + (x2 * (x3 - (f_X12_hourOf x7 S)))))), (8, .int (x2 * (x3 - (f_X12_hourOf x7 S)))), (0, .ref 100), (1, .int x1), (2, .int x2), (3, .int x3), (4, .int x4), (7, .int x7)] [.int (S 170 x7.toInt.toNat), .int (f_X12_lower x6 ((S 168 x7.toInt.toNat) + (x2 * (x3 - (f_X12_hourOf x7 S)))))] S R _
                      refine u_st rfl (fun _ => rfl) ?_
                      refine u_st rfl (fun _ => rfl) ?_
                      show u_P L xs m d m_X12_escaped 333 [(5, .int (f_X12_higher (f_X12_higher x5 ((S 167 x7.toInt.toNat) - (x2 * (x3 - (f_X12_hourOf x7 S))))) ((S 169 x7.toInt.toNat) - (x2 * (x3 - (f_X12_hourOf x7 S)))))), (6, .int (f_X12_lower x6 ((S 168 x7.toInt.toNat) + (x2 * (x3 - (f_X12_hourOf x7 S)))))), (8, .int (x2 * (x3 - (f_X12_hourOf x7 S)))), (0, .ref 100), (1, .int x1), (2, .int x2), (3, .int x3), (4, .int x4), (7, .int x7)] [.int ((S 170 x7.toInt.toNat) + (x2 * (x3 - (f_X12_hourOf x7 S)))), .int (f_X12_lower x6 ((S 168 x7.toInt.toNat) + (x2 * (x3 - (f_X12_hourOf x7 S)))))] S R _
                      refine u_cs (ac := [.int (f_X12_lower x6 ((S 168 x7.toInt.toNat) + (x2 * (x3 - (f_X12_hourOf x7 S))))), .int ((S 170 x7.toInt.toNat) + (x2 * (x3 - (f_X12_hourOf x7 S))))]) (rest := []) rfl (by decide) mt_X12_lower (fun _ => rfl) (Nat.le_of_ble_eq_true rfl) (Nat.le_of_ble_eq_true rfl) (fun d' => c_X12_lower L xs m d' (f_X12_lower x6 ((S 168 x7.toInt.toNat) + (x2 * (x3 - (f_X12_hourOf x7 S))))) ((S 170 x7.toInt.toNat) + (x2 * (x3 - (f_X12_hourOf x7 S)))) S R) ?_
                      rintro _ _ _ ⟨_, rfl, rfl, rfl, rfl⟩
                      refine u_st rfl (fun _ => rfl) ?_
                      refine u_st rfl (fun _ => rfl) ?_
                      refine u_st rfl (fun _ => rfl) ?_
                      refine u_lc (b := [(0, .ref 100), (1, .int x1), (2, .int x2), (3, .int x3), (4, .int x4), (5, .int (f_X12_higher (f_X12_higher x5 ((S 167 x7.toInt.toNat) - (x2 * (x3 - (f_X12_hourOf x7 S))))) ((S 169 x7.toInt.toNat) - (x2 * (x3 - (f_X12_hourOf x7 S)))))), (6, .int (f_X12_lower (f_X12_lower x6 ((S 168 x7.toInt.toNat) + (x2 * (x3 - (f_X12_hourOf x7 S))))) ((S 170 x7.toInt.toNat) + (x2 * (x3 - (f_X12_hourOf x7 S)))))), (7, .int (x7 + (Int32.ofInt 1))), (8, .int (x2 * (x3 - (f_X12_hourOf x7 S))))]) (show ([7, 6, 5, 8, 0, 1, 2, 3, 4] : List Nat).Nodup by decide) (show ([0, 1, 2, 3, 4, 5, 6, 7, 8] : List Nat).Nodup by decide) (fun i => match i with | 0 => rfl | 1 => rfl | 2 => rfl | 3 => rfl | 4 => rfl | 5 => rfl | 6 => rfl | 7 => rfl | 8 => rfl | _ + 9 => rfl) ?_
                      exact (ih m hm).2.2 d (x2 * (x3 - (f_X12_hourOf x7 S))) x1 x2 x3 x4 (f_X12_higher (f_X12_higher x5 ((S 167 x7.toInt.toNat) - (x2 * (x3 - (f_X12_hourOf x7 S))))) ((S 169 x7.toInt.toNat) - (x2 * (x3 - (f_X12_hourOf x7 S))))) (f_X12_lower (f_X12_lower x6 ((S 168 x7.toInt.toNat) + (x2 * (x3 - (f_X12_hourOf x7 S))))) ((S 170 x7.toInt.toNat) + (x2 * (x3 - (f_X12_hourOf x7 S))))) (x7 + (Int32.ofInt 1)) S hD
    · intro d j8 x1 x2 x3 x4 x5 x6 x7 S hD
      have hD := k174 x1 x2 x3 x4 x5 x6 x7 S hD
      unfold D_X12_escaped_174 at hD
      show u_P L xs n d m_X12_escaped 174 [(0, .ref 100), (1, .int x1), (2, .int x2), (3, .int x3), (4, .int x4), (5, .int x5), (6, .int x6), (7, .int x7), (8, .int j8)] [] S R _
      refine u_st1 rfl (fun _ => rfl) (fun m hm => ?_)
      refine u_st rfl (fun _ => rfl) ?_
      show u_P L xs m d m_X12_escaped 177 [(0, .ref 100), (1, .int x1), (2, .int x2), (3, .int x3), (4, .int x4), (5, .int x5), (6, .int x6), (7, .int x7), (8, .int j8)] [.int x1, .int x7] S R _
      refine u_ic_ge rfl (fun h1 => ?_) (fun h1 => ?_)
      · have hD := hD.1 h1
        show u_P L xs m d m_X12_escaped 344 [(0, .ref 100), (1, .int x1), (2, .int x2), (3, .int x3), (4, .int x4), (5, .int x5), (6, .int x6), (7, .int x7), (8, .int j8)] [] S R _
        refine u_st rfl (fun _ => rfl) ?_
        show u_P L xs m d m_X12_escaped 346 [(0, .ref 100), (1, .int x1), (2, .int x2), (3, .int x3), (4, .int x4), (5, .int x5), (6, .int x6), (7, .int x7), (8, .int j8)] [.int x4] S R _
        refine u_if_ne rfl (fun h2 => ?_) (fun h2 => ?_)
        · have hD := hD.1 h2
          show u_P L xs m d m_X12_escaped 354 [(0, .ref 100), (1, .int x1), (2, .int x2), (3, .int x3), (4, .int x4), (5, .int x5), (6, .int x6), (7, .int x7), (8, .int j8)] [] S R _
          refine u_st rfl (fun _ => rfl) ?_
          refine u_st rfl (fun _ => rfl) ?_
          show u_P L xs m d m_X12_escaped 357 [(0, .ref 100), (1, .int x1), (2, .int x2), (3, .int x3), (4, .int x4), (5, .int x5), (6, .int x6), (7, .int x7), (8, .int j8)] [.int (Int32.ofInt 1), .int x4] S R _
          refine u_ic_ne rfl (fun h3 => ?_) (fun h3 => ?_)
          · have hD := hD.1 h3
            show u_P L xs m d m_X12_escaped 365 [(0, .ref 100), (1, .int x1), (2, .int x2), (3, .int x3), (4, .int x4), (5, .int x5), (6, .int x6), (7, .int x7), (8, .int j8)] [] S R _
            refine u_st rfl (fun _ => rfl) ?_
            refine u_st rfl (fun _ => rfl) ?_
            refine u_st rfl (fun _ => rfl) ?_
            refine u_st rfl (fun _ => rfl) ?_
            refine u_st rfl (fun _ => rfl) ?_
            refine u_st rfl (fun _ => rfl) ?_
            show u_P L xs m d m_X12_escaped 375 [(0, .ref 100), (1, .int x1), (2, .int x2), (3, .int x3), (4, .int x4), (5, .int x5), (6, .int x6), (7, .int x7), (8, .int j8)] [.int x4, .int ((x6 - x5) + x4)] S R _
            refine u_idiv rfl (fun b4 => ?_)
            have hD := hD b4
            show u_P L xs m d m_X12_escaped 376 [(0, .ref 100), (1, .int x1), (2, .int x2), (3, .int x3), (4, .int x4), (5, .int x5), (6, .int x6), (7, .int x7), (8, .int j8)] [.int (((x6 - x5) + x4) / x4)] S R _
            exact u_ret rfl rfl ⟨_, rfl, rfl, hD⟩
          · have hD := hD.2 h3
            show u_P L xs m d m_X12_escaped 360 [(0, .ref 100), (1, .int x1), (2, .int x2), (3, .int x3), (4, .int x4), (5, .int x5), (6, .int x6), (7, .int x7), (8, .int j8)] [] S R _
            refine u_st rfl (fun _ => rfl) ?_
            refine u_st rfl (fun _ => rfl) ?_
            show u_P L xs m d m_X12_escaped 376 [(0, .ref 100), (1, .int x1), (2, .int x2), (3, .int x3), (4, .int x4), (5, .int x5), (6, .int x6), (7, .int x7), (8, .int j8)] [.int x6] S R _
            exact u_ret rfl rfl ⟨_, rfl, rfl, hD⟩
        · have hD := hD.2 h2
          show u_P L xs m d m_X12_escaped 349 [(0, .ref 100), (1, .int x1), (2, .int x2), (3, .int x3), (4, .int x4), (5, .int x5), (6, .int x6), (7, .int x7), (8, .int j8)] [] S R _
          refine u_st rfl (fun _ => rfl) ?_
          refine u_st rfl (fun _ => rfl) ?_
          show u_P L xs m d m_X12_escaped 376 [(0, .ref 100), (1, .int x1), (2, .int x2), (3, .int x3), (4, .int x4), (5, .int x5), (6, .int x6), (7, .int x7), (8, .int j8)] [.int x5] S R _
          exact u_ret rfl rfl ⟨_, rfl, rfl, hD⟩
      · have hD := hD.2 h1
        show u_P L xs m d m_X12_escaped 180 [(0, .ref 100), (1, .int x1), (2, .int x2), (3, .int x3), (4, .int x4), (5, .int x5), (6, .int x6), (7, .int x7), (8, .int j8)] [] S R _
        refine u_st rfl (fun _ => rfl) ?_
        refine u_st rfl (fun _ => rfl) ?_
        refine u_st rfl (fun _ => rfl) ?_
        refine u_st rfl (fun _ => rfl) ?_
        show u_P L xs m d m_X12_escaped 185 [(0, .ref 100), (1, .int x1), (2, .int x2), (3, .int x3), (4, .int x4), (5, .int x5), (6, .int x6), (7, .int x7), (8, .int j8)] [.int x7, .ref 100, .int x3, .int x2] S R _
        refine u_cv (rest := [.int x3, .int x2]) rfl (by decide) mt_X12_hourOf v_tyM rfl rfl rfl (Nat.le_of_ble_eq_true rfl) (Nat.le_of_ble_eq_true rfl) (Nat.le_of_ble_eq_true rfl) (fun d' => c_X12_hourOf L xs m d' x7 S R) ?_
        rintro _ _ _ ⟨_, rfl, rfl, rfl, rfl⟩
        show u_P L xs m d m_X12_escaped 188 [(0, .ref 100), (1, .int x1), (2, .int x2), (3, .int x3), (4, .int x4), (5, .int x5), (6, .int x6), (7, .int x7), (8, .int j8)] [.int (f_X12_hourOf x7 S), .int x3, .int x2] S R _
        refine u_ic_le rfl (fun h5 => ?_) (fun h5 => ?_)
        · have hD := hD.1 h5
          show u_P L xs m d m_X12_escaped 202 [(0, .ref 100), (1, .int x1), (2, .int x2), (3, .int x3), (4, .int x4), (5, .int x5), (6, .int x6), (7, .int x7), (8, .int j8)] [.int x2] S R _
          refine u_st rfl (fun _ => rfl) ?_
          refine u_st rfl (fun _ => rfl) ?_
          show u_P L xs m d m_X12_escaped 205 [(0, .ref 100), (1, .int x1), (2, .int x2), (3, .int x3), (4, .int x4), (5, .int x5), (6, .int x6), (7, .int x7), (8, .int j8)] [.int x7, .ref 100, .int x2] S R _
          refine u_cv (rest := [.int x2]) rfl (by decide) mt_X12_hourOf v_tyM rfl rfl rfl (Nat.le_of_ble_eq_true rfl) (Nat.le_of_ble_eq_true rfl) (Nat.le_of_ble_eq_true rfl) (fun d' => c_X12_hourOf L xs m d' x7 S R) ?_
          rintro _ _ _ ⟨_, rfl, rfl, rfl, rfl⟩
          refine u_st rfl (fun _ => rfl) ?_
          refine u_st rfl (fun _ => rfl) ?_
          refine u_st rfl (fun _ => rfl) ?_
          refine u_st rfl (fun _ => rfl) ?_
          refine u_st rfl (fun _ => rfl) ?_
          refine u_st rfl (fun _ => rfl) ?_
          show u_P L xs m d m_X12_escaped 216 [(8, .int (x2 * ((f_X12_hourOf x7 S) - x3))), (0, .ref 100), (1, .int x1), (2, .int x2), (3, .int x3), (4, .int x4), (5, .int x5), (6, .int x6), (7, .int x7)] [.int x7, .ref 100] S R _
          refine u_cv (rest := []) rfl (by decide) mt_X12_hourOf v_tyM rfl rfl rfl (Nat.le_of_ble_eq_true rfl) (Nat.le_of_ble_eq_true rfl) (Nat.le_of_ble_eq_true rfl) (fun d' => c_X12_hourOf L xs m d' x7 S R) ?_
          rintro _ _ _ ⟨_, rfl, rfl, rfl, rfl⟩
          refine u_st rfl (fun _ => rfl) ?_
          show u_P L xs m d m_X12_escaped 220 [(8, .int (x2 * ((f_X12_hourOf x7 S) - x3))), (0, .ref 100), (1, .int x1), (2, .int x2), (3, .int x3), (4, .int x4), (5, .int x5), (6, .int x6), (7, .int x7)] [.int x3, .int (f_X12_hourOf x7 S)] S R _
          refine u_ic_gt rfl (fun h6 => ?_) (fun h6 => ?_)
          · have hD := hD.1 h6
            show u_P L xs m d m_X12_escaped 277 [(8, .int (x2 * ((f_X12_hourOf x7 S) - x3))), (0, .ref 100), (1, .int x1), (2, .int x2), (3, .int x3), (4, .int x4), (5, .int x5), (6, .int x6), (7, .int x7)] [] S R _
            refine u_st rfl (fun _ => rfl) ?_
            refine u_st rfl (fun _ => rfl) ?_
            show u_P L xs m d m_X12_escaped 280 [(8, .int (x2 * ((f_X12_hourOf x7 S) - x3))), (0, .ref 100), (1, .int x1), (2, .int x2), (3, .int x3), (4, .int x4), (5, .int x5), (6, .int x6), (7, .int x7)] [.int x7, .ref 100] S R _
            refine u_cv (rest := []) rfl (by decide) mt_X12_hourOf v_tyM rfl rfl rfl (Nat.le_of_ble_eq_true rfl) (Nat.le_of_ble_eq_true rfl) (Nat.le_of_ble_eq_true rfl) (fun d' => c_X12_hourOf L xs m d' x7 S R) ?_
            rintro _ _ _ ⟨_, rfl, rfl, rfl, rfl⟩
            refine u_st rfl (fun _ => rfl) ?_
            show u_P L xs m d m_X12_escaped 284 [(8, .int (x2 * ((f_X12_hourOf x7 S) - x3))), (0, .ref 100), (1, .int x1), (2, .int x2), (3, .int x3), (4, .int x4), (5, .int x5), (6, .int x6), (7, .int x7)] [.int x3, .int (f_X12_hourOf x7 S)] S R _
            refine u_ic_le rfl (fun h7 => ?_) (fun h7 => ?_)
            · have hD := hD.1 h7
              show u_P L xs m d m_X12_escaped 338 [(8, .int (x2 * ((f_X12_hourOf x7 S) - x3))), (0, .ref 100), (1, .int x1), (2, .int x2), (3, .int x3), (4, .int x4), (5, .int x5), (6, .int x6), (7, .int x7)] [] S R _
              refine u_st rfl (fun _ => rfl) ?_
              refine u_st rfl (fun _ => rfl) ?_
              refine u_lc (b := [(0, .ref 100), (1, .int x1), (2, .int x2), (3, .int x3), (4, .int x4), (5, .int x5), (6, .int x6), (7, .int (x7 + (Int32.ofInt 1))), (8, .int (x2 * ((f_X12_hourOf x7 S) - x3)))]) (show ([7, 8, 0, 1, 2, 3, 4, 5, 6] : List Nat).Nodup by decide) (show ([0, 1, 2, 3, 4, 5, 6, 7, 8] : List Nat).Nodup by decide) (fun i => match i with | 0 => rfl | 1 => rfl | 2 => rfl | 3 => rfl | 4 => rfl | 5 => rfl | 6 => rfl | 7 => rfl | 8 => rfl | _ + 9 => rfl) ?_
              exact (ih m hm).2.2 d (x2 * ((f_X12_hourOf x7 S) - x3)) x1 x2 x3 x4 x5 x6 (x7 + (Int32.ofInt 1)) S hD
            · have hD := hD.2 h7
              show u_P L xs m d m_X12_escaped 287 [(8, .int (x2 * ((f_X12_hourOf x7 S) - x3))), (0, .ref 100), (1, .int x1), (2, .int x2), (3, .int x3), (4, .int x4), (5, .int x5), (6, .int x6), (7, .int x7)] [] S R _
              refine u_st rfl (fun _ => rfl) ?_
              show u_P L xs m d m_X12_escaped 289 [(8, .int (x2 * ((f_X12_hourOf x7 S) - x3))), (0, .ref 100), (1, .int x1), (2, .int x2), (3, .int x3), (4, .int x4), (5, .int x5), (6, .int x6), (7, .int x7)] [.int x7] S R _
              refine u_if_eq rfl (fun h8 => ?_) (fun h8 => ?_)
              · have hD := hD.1 h8
                show u_P L xs m d m_X12_escaped 304 [(8, .int (x2 * ((f_X12_hourOf x7 S) - x3))), (0, .ref 100), (1, .int x1), (2, .int x2), (3, .int x3), (4, .int x4), (5, .int x5), (6, .int x6), (7, .int x7)] [] S R _
                refine u_st rfl (fun _ => rfl) ?_
                refine u_st rfl (fun _ => rfl) ?_
                show u_P L xs m d m_X12_escaped 307 [(8, .int (x2 * ((f_X12_hourOf x7 S) - x3))), (0, .ref 100), (1, .int x1), (2, .int x2), (3, .int x3), (4, .int x4), (5, .int x5), (6, .int x6), (7, .int x7)] [.ref 100, .int x5] S R _
                refine u_getr rfl v_tyM rfl ?_
                refine u_st rfl (fun _ => rfl) ?_
                show u_P L xs m d m_X12_escaped 312 [(8, .int (x2 * ((f_X12_hourOf x7 S) - x3))), (0, .ref 100), (1, .int x1), (2, .int x2), (3, .int x3), (4, .int x4), (5, .int x5), (6, .int x6), (7, .int x7)] [.int x7, .ref 170, .int x5] S R _
                refine u_ialdE (v := S 169 x7.toInt.toNat) rfl rfl rfl (fun b91 b92 => ?_)
                have hD := hD b91 b92
                show u_P L xs m d m_X12_escaped 313 [(8, .int (x2 * ((f_X12_hourOf x7 S) - x3))), (0, .ref 100), (1, .int x1), (2, .int x2), (3, .int x3), (4, .int x4), (5, .int x5), (6, .int x6), (7, .int x7)] [.int (S 169 x7.toInt.toNat), .int x5] S R _
                refine u_st rfl (fun _ => rfl) ?_
                refine u_st rfl (fun _ => rfl) ?_
                show u_P L xs m d m_X12_escaped 316 [(8, .int (x2 * ((f_X12_hourOf x7 S) - x3))), (0, .ref 100), (1, .int x1), (2, .int x2), (3, .int x3), (4, .int x4), (5, .int x5), (6, .int x6), (7, .int x7)] [.int ((S 169 x7.toInt.toNat) - (x2 * ((f_X12_hourOf x7 S) - x3))), .int x5] S R _
                refine u_cs (ac := [.int x5, .int ((S 169 x7.toInt.toNat) - (x2 * ((f_X12_hourOf x7 S) - x3)))]) (rest := []) rfl (by decide) mt_X12_higher (fun _ => rfl) (Nat.le_of_ble_eq_true rfl) (Nat.le_of_ble_eq_true rfl) (fun d' => c_X12_higher L xs m d' x5 ((S 169 x7.toInt.toNat) - (x2 * ((f_X12_hourOf x7 S) - x3))) S R) ?_
                rintro _ _ _ ⟨_, rfl, rfl, rfl, rfl⟩
                refine u_st rfl (fun _ => rfl) ?_
                refine u_st rfl (fun _ => rfl) ?_
                refine u_st rfl (fun _ => rfl) ?_
                show u_P L xs m d m_X12_escaped 324 [(5, .int (f_X12_higher x5 ((S 169 x7.toInt.toNat) - (x2 * ((f_X12_hourOf x7 S) - x3))))), (8, .int (x2 * ((f_X12_hourOf x7 S) - x3))), (0, .ref 100), (1, .int x1), (2, .int x2), (3, .int x3), (4, .int x4), (6, .int x6), (7, .int x7)] [.ref 100, .int x6] S R _
                refine u_getr rfl v_tyM rfl ?_
                refine u_st rfl (fun _ => rfl) ?_
                show u_P L xs m d m_X12_escaped 329 [(5, .int (f_X12_higher x5 ((S 169 x7.toInt.toNat) - (x2 * ((f_X12_hourOf x7 S) - x3))))), (8, .int (x2 * ((f_X12_hourOf x7 S) - x3))), (0, .ref 100), (1, .int x1), (2, .int x2), (3, .int x3), (4, .int x4), (6, .int x6), (7, .int x7)] [.int x7, .ref 171, .int x6] S R _
                refine u_ialdE (v := S 170 x7.toInt.toNat) rfl rfl rfl (fun b101 b102 => ?_)
                have hD := hD b101 b102
                show u_P L xs m d m_X12_escaped 330 [(5, .int (f_X12_higher x5 ((S 169 x7.toInt.toNat) - (x2 * ((f_X12_hourOf x7 S) - x3))))), (8, .int (x2 * ((f_X12_hourOf x7 S) - x3))), (0, .ref 100), (1, .int x1), (2, .int x2), (3, .int x3), (4, .int x4), (6, .int x6), (7, .int x7)] [.int (S 170 x7.toInt.toNat), .int x6] S R _
                refine u_st rfl (fun _ => rfl) ?_
                refine u_st rfl (fun _ => rfl) ?_
                show u_P L xs m d m_X12_escaped 333 [(5, .int (f_X12_higher x5 ((S 169 x7.toInt.toNat) - (x2 * ((f_X12_hourOf x7 S) - x3))))), (8, .int (x2 * ((f_X12_hourOf x7 S) - x3))), (0, .ref 100), (1, .int x1), (2, .int x2), (3, .int x3), (4, .int x4), (6, .int x6), (7, .int x7)] [.int ((S 170 x7.toInt.toNat) + (x2 * ((f_X12_hourOf x7 S) - x3))), .int x6] S R _
                refine u_cs (ac := [.int x6, .int ((S 170 x7.toInt.toNat) + (x2 * ((f_X12_hourOf x7 S) - x3)))]) (rest := []) rfl (by decide) mt_X12_lower (fun _ => rfl) (Nat.le_of_ble_eq_true rfl) (Nat.le_of_ble_eq_true rfl) (fun d' => c_X12_lower L xs m d' x6 ((S 170 x7.toInt.toNat) + (x2 * ((f_X12_hourOf x7 S) - x3))) S R) ?_
                rintro _ _ _ ⟨_, rfl, rfl, rfl, rfl⟩
                refine u_st rfl (fun _ => rfl) ?_
                refine u_st rfl (fun _ => rfl) ?_
                refine u_st rfl (fun _ => rfl) ?_
                refine u_lc (b := [(0, .ref 100), (1, .int x1), (2, .int x2), (3, .int x3), (4, .int x4), (5, .int (f_X12_higher x5 ((S 169 x7.toInt.toNat) - (x2 * ((f_X12_hourOf x7 S) - x3))))), (6, .int (f_X12_lower x6 ((S 170 x7.toInt.toNat) + (x2 * ((f_X12_hourOf x7 S) - x3))))), (7, .int (x7 + (Int32.ofInt 1))), (8, .int (x2 * ((f_X12_hourOf x7 S) - x3)))]) (show ([7, 6, 5, 8, 0, 1, 2, 3, 4] : List Nat).Nodup by decide) (show ([0, 1, 2, 3, 4, 5, 6, 7, 8] : List Nat).Nodup by decide) (fun i => match i with | 0 => rfl | 1 => rfl | 2 => rfl | 3 => rfl | 4 => rfl | 5 => rfl | 6 => rfl | 7 => rfl | 8 => rfl | _ + 9 => rfl) ?_
                exact (ih m hm).2.2 d (x2 * ((f_X12_hourOf x7 S) - x3)) x1 x2 x3 x4 (f_X12_higher x5 ((S 169 x7.toInt.toNat) - (x2 * ((f_X12_hourOf x7 S) - x3)))) (f_X12_lower x6 ((S 170 x7.toInt.toNat) + (x2 * ((f_X12_hourOf x7 S) - x3)))) (x7 + (Int32.ofInt 1)) S hD
              · have hD := hD.2 h8
                show u_P L xs m d m_X12_escaped 292 [(8, .int (x2 * ((f_X12_hourOf x7 S) - x3))), (0, .ref 100), (1, .int x1), (2, .int x2), (3, .int x3), (4, .int x4), (5, .int x5), (6, .int x6), (7, .int x7)] [] S R _
                refine u_st rfl (fun _ => rfl) ?_
                refine u_st rfl (fun _ => rfl) ?_
                refine u_st rfl (fun _ => rfl) ?_
                refine u_st rfl (fun _ => rfl) ?_
                show u_P L xs m d m_X12_escaped 297 [(8, .int (x2 * ((f_X12_hourOf x7 S) - x3))), (0, .ref 100), (1, .int x1), (2, .int x2), (3, .int x3), (4, .int x4), (5, .int x5), (6, .int x6), (7, .int x7)] [.int (x7 - (Int32.ofInt 1)), .ref 100] S R _
                refine u_cv (rest := []) rfl (by decide) mt_X12_hourOf v_tyM rfl rfl rfl (Nat.le_of_ble_eq_true rfl) (Nat.le_of_ble_eq_true rfl) (Nat.le_of_ble_eq_true rfl) (fun d' => c_X12_hourOf L xs m d' (x7 - (Int32.ofInt 1)) S R) ?_
                rintro _ _ _ ⟨_, rfl, rfl, rfl, rfl⟩
                refine u_st rfl (fun _ => rfl) ?_
                show u_P L xs m d m_X12_escaped 301 [(8, .int (x2 * ((f_X12_hourOf x7 S) - x3))), (0, .ref 100), (1, .int x1), (2, .int x2), (3, .int x3), (4, .int x4), (5, .int x5), (6, .int x6), (7, .int x7)] [.int x3, .int (f_X12_hourOf (x7 - (Int32.ofInt 1)) S)] S R _
                refine u_ic_gt rfl (fun h11 => ?_) (fun h11 => ?_)
                · have hD := hD.1 h11
                  show u_P L xs m d m_X12_escaped 338 [(8, .int (x2 * ((f_X12_hourOf x7 S) - x3))), (0, .ref 100), (1, .int x1), (2, .int x2), (3, .int x3), (4, .int x4), (5, .int x5), (6, .int x6), (7, .int x7)] [] S R _
                  refine u_st rfl (fun _ => rfl) ?_
                  refine u_st rfl (fun _ => rfl) ?_
                  refine u_lc (b := [(0, .ref 100), (1, .int x1), (2, .int x2), (3, .int x3), (4, .int x4), (5, .int x5), (6, .int x6), (7, .int (x7 + (Int32.ofInt 1))), (8, .int (x2 * ((f_X12_hourOf x7 S) - x3)))]) (show ([7, 8, 0, 1, 2, 3, 4, 5, 6] : List Nat).Nodup by decide) (show ([0, 1, 2, 3, 4, 5, 6, 7, 8] : List Nat).Nodup by decide) (fun i => match i with | 0 => rfl | 1 => rfl | 2 => rfl | 3 => rfl | 4 => rfl | 5 => rfl | 6 => rfl | 7 => rfl | 8 => rfl | _ + 9 => rfl) ?_
                  exact (ih m hm).2.2 d (x2 * ((f_X12_hourOf x7 S) - x3)) x1 x2 x3 x4 x5 x6 (x7 + (Int32.ofInt 1)) S hD
                · have hD := hD.2 h11
                  show u_P L xs m d m_X12_escaped 304 [(8, .int (x2 * ((f_X12_hourOf x7 S) - x3))), (0, .ref 100), (1, .int x1), (2, .int x2), (3, .int x3), (4, .int x4), (5, .int x5), (6, .int x6), (7, .int x7)] [] S R _
                  refine u_st rfl (fun _ => rfl) ?_
                  refine u_st rfl (fun _ => rfl) ?_
                  show u_P L xs m d m_X12_escaped 307 [(8, .int (x2 * ((f_X12_hourOf x7 S) - x3))), (0, .ref 100), (1, .int x1), (2, .int x2), (3, .int x3), (4, .int x4), (5, .int x5), (6, .int x6), (7, .int x7)] [.ref 100, .int x5] S R _
                  refine u_getr rfl v_tyM rfl ?_
                  refine u_st rfl (fun _ => rfl) ?_
                  show u_P L xs m d m_X12_escaped 312 [(8, .int (x2 * ((f_X12_hourOf x7 S) - x3))), (0, .ref 100), (1, .int x1), (2, .int x2), (3, .int x3), (4, .int x4), (5, .int x5), (6, .int x6), (7, .int x7)] [.int x7, .ref 170, .int x5] S R _
                  refine u_ialdE (v := S 169 x7.toInt.toNat) rfl rfl rfl (fun b121 b122 => ?_)
                  have hD := hD b121 b122
                  show u_P L xs m d m_X12_escaped 313 [(8, .int (x2 * ((f_X12_hourOf x7 S) - x3))), (0, .ref 100), (1, .int x1), (2, .int x2), (3, .int x3), (4, .int x4), (5, .int x5), (6, .int x6), (7, .int x7)] [.int (S 169 x7.toInt.toNat), .int x5] S R _
                  refine u_st rfl (fun _ => rfl) ?_
                  refine u_st rfl (fun _ => rfl) ?_
                  show u_P L xs m d m_X12_escaped 316 [(8, .int (x2 * ((f_X12_hourOf x7 S) - x3))), (0, .ref 100), (1, .int x1), (2, .int x2), (3, .int x3), (4, .int x4), (5, .int x5), (6, .int x6), (7, .int x7)] [.int ((S 169 x7.toInt.toNat) - (x2 * ((f_X12_hourOf x7 S) - x3))), .int x5] S R _
                  refine u_cs (ac := [.int x5, .int ((S 169 x7.toInt.toNat) - (x2 * ((f_X12_hourOf x7 S) - x3)))]) (rest := []) rfl (by decide) mt_X12_higher (fun _ => rfl) (Nat.le_of_ble_eq_true rfl) (Nat.le_of_ble_eq_true rfl) (fun d' => c_X12_higher L xs m d' x5 ((S 169 x7.toInt.toNat) - (x2 * ((f_X12_hourOf x7 S) - x3))) S R) ?_
                  rintro _ _ _ ⟨_, rfl, rfl, rfl, rfl⟩
                  refine u_st rfl (fun _ => rfl) ?_
                  refine u_st rfl (fun _ => rfl) ?_
                  refine u_st rfl (fun _ => rfl) ?_
                  show u_P L xs m d m_X12_escaped 324 [(5, .int (f_X12_higher x5 ((S 169 x7.toInt.toNat) - (x2 * ((f_X12_hourOf x7 S) - x3))))), (8, .int (x2 * ((f_X12_hourOf x7 S) - x3))), (0, .ref 100), (1, .int x1), (2, .int x2), (3, .int x3), (4, .int x4), (6, .int x6), (7, .int x7)] [.ref 100, .int x6] S R _
                  refine u_getr rfl v_tyM rfl ?_
                  refine u_st rfl (fun _ => rfl) ?_
                  show u_P L xs m d m_X12_escaped 329 [(5, .int (f_X12_higher x5 ((S 169 x7.toInt.toNat) - (x2 * ((f_X12_hourOf x7 S) - x3))))), (8, .int (x2 * ((f_X12_hourOf x7 S) - x3))), (0, .ref 100), (1, .int x1), (2, .int x2), (3, .int x3), (4, .int x4), (6, .int x6), (7, .int x7)] [.int x7, .ref 171, .int x6] S R _
                  refine u_ialdE (v := S 170 x7.toInt.toNat) rfl rfl rfl (fun b131 b132 => ?_)
                  have hD := hD b131 b132
                  show u_P L xs m d m_X12_escaped 330 [(5, .int (f_X12_higher x5 ((S 169 x7.toInt.toNat) - (x2 * ((f_X12_hourOf x7 S) - x3))))), (8, .int (x2 * ((f_X12_hourOf x7 S) - x3))), (0, .ref 100), (1, .int x1), (2, .int x2), (3, .int x3), (4, .int x4), (6, .int x6), (7, .int x7)] [.int (S 170 x7.toInt.toNat), .int x6] S R _
                  refine u_st rfl (fun _ => rfl) ?_
                  refine u_st rfl (fun _ => rfl) ?_
                  show u_P L xs m d m_X12_escaped 333 [(5, .int (f_X12_higher x5 ((S 169 x7.toInt.toNat) - (x2 * ((f_X12_hourOf x7 S) - x3))))), (8, .int (x2 * ((f_X12_hourOf x7 S) - x3))), (0, .ref 100), (1, .int x1), (2, .int x2), (3, .int x3), (4, .int x4), (6, .int x6), (7, .int x7)] [.int ((S 170 x7.toInt.toNat) + (x2 * ((f_X12_hourOf x7 S) - x3))), .int x6] S R _
                  refine u_cs (ac := [.int x6, .int ((S 170 x7.toInt.toNat) + (x2 * ((f_X12_hourOf x7 S) - x3)))]) (rest := []) rfl (by decide) mt_X12_lower (fun _ => rfl) (Nat.le_of_ble_eq_true rfl) (Nat.le_of_ble_eq_true rfl) (fun d' => c_X12_lower L xs m d' x6 ((S 170 x7.toInt.toNat) + (x2 * ((f_X12_hourOf x7 S) - x3))) S R) ?_
                  rintro _ _ _ ⟨_, rfl, rfl, rfl, rfl⟩
                  refine u_st rfl (fun _ => rfl) ?_
                  refine u_st rfl (fun _ => rfl) ?_
                  refine u_st rfl (fun _ => rfl) ?_
                  refine u_lc (b := [(0, .ref 100), (1, .int x1), (2, .int x2), (3, .int x3), (4, .int x4), (5, .int (f_X12_higher x5 ((S 169 x7.toInt.toNat) - (x2 * ((f_X12_hourOf x7 S) - x3))))), (6, .int (f_X12_lower x6 ((S 170 x7.toInt.toNat) + (x2 * ((f_X12_hourOf x7 S) - x3))))), (7, .int (x7 + (Int32.ofInt 1))), (8, .int (x2 * ((f_X12_hourOf x7 S) - x3)))]) (show ([7, 6, 5, 8, 0, 1, 2, 3, 4] : List Nat).Nodup by decide) (show ([0, 1, 2, 3, 4, 5, 6, 7, 8] : List Nat).Nodup by decide) (fun i => match i with | 0 => rfl | 1 => rfl | 2 => rfl | 3 => rfl | 4 => rfl | 5 => rfl | 6 => rfl | 7 => rfl | 8 => rfl | _ + 9 => rfl) ?_
                  exact (ih m hm).2.2 d (x2 * ((f_X12_hourOf x7 S) - x3)) x1 x2 x3 x4 (f_X12_higher x5 ((S 169 x7.toInt.toNat) - (x2 * ((f_X12_hourOf x7 S) - x3)))) (f_X12_lower x6 ((S 170 x7.toInt.toNat) + (x2 * ((f_X12_hourOf x7 S) - x3)))) (x7 + (Int32.ofInt 1)) S hD
          · have hD := hD.2 h6
            show u_P L xs m d m_X12_escaped 223 [(8, .int (x2 * ((f_X12_hourOf x7 S) - x3))), (0, .ref 100), (1, .int x1), (2, .int x2), (3, .int x3), (4, .int x4), (5, .int x5), (6, .int x6), (7, .int x7)] [] S R _
            refine u_st rfl (fun _ => rfl) ?_
            refine u_st rfl (fun _ => rfl) ?_
            refine u_st rfl (fun _ => rfl) ?_
            refine u_st rfl (fun _ => rfl) ?_
            show u_P L xs m d m_X12_escaped 228 [(8, .int (x2 * ((f_X12_hourOf x7 S) - x3))), (0, .ref 100), (1, .int x1), (2, .int x2), (3, .int x3), (4, .int x4), (5, .int x5), (6, .int x6), (7, .int x7)] [.int x1, .int (x7 + (Int32.ofInt 1))] S R _
            refine u_ic_eq rfl (fun h14 => ?_) (fun h14 => ?_)
            · have hD := hD.1 h14
              show u_P L xs m d m_X12_escaped 243 [(8, .int (x2 * ((f_X12_hourOf x7 S) - x3))), (0, .ref 100), (1, .int x1), (2, .int x2), (3, .int x3), (4, .int x4), (5, .int x5), (6, .int x6), (7, .int x7)] [] S R _
              refine u_st rfl (fun _ => rfl) ?_
              refine u_st rfl (fun _ => rfl) ?_
              show u_P L xs m d m_X12_escaped 246 [(8, .int (x2 * ((f_X12_hourOf x7 S) - x3))), (0, .ref 100), (1, .int x1), (2, .int x2), (3, .int x3), (4, .int x4), (5, .int x5), (6, .int x6), (7, .int x7)] [.ref 100, .int x5] S R _
              refine u_getr rfl v_tyM rfl ?_
              refine u_st rfl (fun _ => rfl) ?_
              show u_P L xs m d m_X12_escaped 251 [(8, .int (x2 * ((f_X12_hourOf x7 S) - x3))), (0, .ref 100), (1, .int x1), (2, .int x2), (3, .int x3), (4, .int x4), (5, .int x5), (6, .int x6), (7, .int x7)] [.int x7, .ref 168, .int x5] S R _
              refine u_ialdE (v := S 167 x7.toInt.toNat) rfl rfl rfl (fun b151 b152 => ?_)
              have hD := hD b151 b152
              show u_P L xs m d m_X12_escaped 252 [(8, .int (x2 * ((f_X12_hourOf x7 S) - x3))), (0, .ref 100), (1, .int x1), (2, .int x2), (3, .int x3), (4, .int x4), (5, .int x5), (6, .int x6), (7, .int x7)] [.int (S 167 x7.toInt.toNat), .int x5] S R _
              refine u_st rfl (fun _ => rfl) ?_
              refine u_st rfl (fun _ => rfl) ?_
              show u_P L xs m d m_X12_escaped 255 [(8, .int (x2 * ((f_X12_hourOf x7 S) - x3))), (0, .ref 100), (1, .int x1), (2, .int x2), (3, .int x3), (4, .int x4), (5, .int x5), (6, .int x6), (7, .int x7)] [.int ((S 167 x7.toInt.toNat) - (x2 * ((f_X12_hourOf x7 S) - x3))), .int x5] S R _
              refine u_cs (ac := [.int x5, .int ((S 167 x7.toInt.toNat) - (x2 * ((f_X12_hourOf x7 S) - x3)))]) (rest := []) rfl (by decide) mt_X12_higher (fun _ => rfl) (Nat.le_of_ble_eq_true rfl) (Nat.le_of_ble_eq_true rfl) (fun d' => c_X12_higher L xs m d' x5 ((S 167 x7.toInt.toNat) - (x2 * ((f_X12_hourOf x7 S) - x3))) S R) ?_
              rintro _ _ _ ⟨_, rfl, rfl, rfl, rfl⟩
              refine u_st rfl (fun _ => rfl) ?_
              refine u_st rfl (fun _ => rfl) ?_
              refine u_st rfl (fun _ => rfl) ?_
              show u_P L xs m d m_X12_escaped 263 [(5, .int (f_X12_higher x5 ((S 167 x7.toInt.toNat) - (x2 * ((f_X12_hourOf x7 S) - x3))))), (8, .int (x2 * ((f_X12_hourOf x7 S) - x3))), (0, .ref 100), (1, .int x1), (2, .int x2), (3, .int x3), (4, .int x4), (6, .int x6), (7, .int x7)] [.ref 100, .int x6] S R _
              refine u_getr rfl v_tyM rfl ?_
              refine u_st rfl (fun _ => rfl) ?_
              show u_P L xs m d m_X12_escaped 268 [(5, .int (f_X12_higher x5 ((S 167 x7.toInt.toNat) - (x2 * ((f_X12_hourOf x7 S) - x3))))), (8, .int (x2 * ((f_X12_hourOf x7 S) - x3))), (0, .ref 100), (1, .int x1), (2, .int x2), (3, .int x3), (4, .int x4), (6, .int x6), (7, .int x7)] [.int x7, .ref 169, .int x6] S R _
              refine u_ialdE (v := S 168 x7.toInt.toNat) rfl rfl rfl (fun b161 b162 => ?_)
              have hD := hD b161 b162
              show u_P L xs m d m_X12_escaped 269 [(5, .int (f_X12_higher x5 ((S 167 x7.toInt.toNat) - (x2 * ((f_X12_hourOf x7 S) - x3))))), (8, .int (x2 * ((f_X12_hourOf x7 S) - x3))), (0, .ref 100), (1, .int x1), (2, .int x2), (3, .int x3), (4, .int x4), (6, .int x6), (7, .int x7)] [.int (S 168 x7.toInt.toNat), .int x6] S R _
              refine u_st rfl (fun _ => rfl) ?_
              refine u_st rfl (fun _ => rfl) ?_
              show u_P L xs m d m_X12_escaped 272 [(5, .int (f_X12_higher x5 ((S 167 x7.toInt.toNat) - (x2 * ((f_X12_hourOf x7 S) - x3))))), (8, .int (x2 * ((f_X12_hourOf x7 S) - x3))), (0, .ref 100), (1, .int x1), (2, .int x2), (3, .int x3), (4, .int x4), (6, .int x6), (7, .int x7)] [.int ((S 168 x7.toInt.toNat) + (x2 * ((f_X12_hourOf x7 S) - x3))), .int x6] S R _
              refine u_cs (ac := [.int x6, .int ((S 168 x7.toInt.toNat) + (x2 * ((f_X12_hourOf x7 S) - x3)))]) (rest := []) rfl (by decide) mt_X12_lower (fun _ => rfl) (Nat.le_of_ble_eq_true rfl) (Nat.le_of_ble_eq_true rfl) (fun d' => c_X12_lower L xs m d' x6 ((S 168 x7.toInt.toNat) + (x2 * ((f_X12_hourOf x7 S) - x3))) S R) ?_
              rintro _ _ _ ⟨_, rfl, rfl, rfl, rfl⟩
              refine u_st rfl (fun _ => rfl) ?_
              refine u_st rfl (fun _ => rfl) ?_
              refine u_st rfl (fun _ => rfl) ?_
              show u_P L xs m d m_X12_escaped 280 [(6, .int (f_X12_lower x6 ((S 168 x7.toInt.toNat) + (x2 * ((f_X12_hourOf x7 S) - x3))))), (5, .int (f_X12_higher x5 ((S 167 x7.toInt.toNat) - (x2 * ((f_X12_hourOf x7 S) - x3))))), (8, .int (x2 * ((f_X12_hourOf x7 S) - x3))), (0, .ref 100), (1, .int x1), (2, .int x2), (3, .int x3), (4, .int x4), (7, .int x7)] [.int x7, .ref 100] S R _
              refine u_cv (rest := []) rfl (by decide) mt_X12_hourOf v_tyM rfl rfl rfl (Nat.le_of_ble_eq_true rfl) (Nat.le_of_ble_eq_true rfl) (Nat.le_of_ble_eq_true rfl) (fun d' => c_X12_hourOf L xs m d' x7 S R) ?_
              rintro _ _ _ ⟨_, rfl, rfl, rfl, rfl⟩
              refine u_st rfl (fun _ => rfl) ?_
              show u_P L xs m d m_X12_escaped 284 [(6, .int (f_X12_lower x6 ((S 168 x7.toInt.toNat) + (x2 * ((f_X12_hourOf x7 S) - x3))))), (5, .int (f_X12_higher x5 ((S 167 x7.toInt.toNat) - (x2 * ((f_X12_hourOf x7 S) - x3))))), (8, .int (x2 * ((f_X12_hourOf x7 S) - x3))), (0, .ref 100), (1, .int x1), (2, .int x2), (3, .int x3), (4, .int x4), (7, .int x7)] [.int x3, .int (f_X12_hourOf x7 S)] S R _
              refine u_ic_le rfl (fun h17 => ?_) (fun h17 => ?_)
              · have hD := hD.1 h17
                show u_P L xs m d m_X12_escaped 338 [(6, .int (f_X12_lower x6 ((S 168 x7.toInt.toNat) + (x2 * ((f_X12_hourOf x7 S) - x3))))), (5, .int (f_X12_higher x5 ((S 167 x7.toInt.toNat) - (x2 * ((f_X12_hourOf x7 S) - x3))))), (8, .int (x2 * ((f_X12_hourOf x7 S) - x3))), (0, .ref 100), (1, .int x1), (2, .int x2), (3, .int x3), (4, .int x4), (7, .int x7)] [] S R _
                refine u_st rfl (fun _ => rfl) ?_
                refine u_st rfl (fun _ => rfl) ?_
                refine u_lc (b := [(0, .ref 100), (1, .int x1), (2, .int x2), (3, .int x3), (4, .int x4), (5, .int (f_X12_higher x5 ((S 167 x7.toInt.toNat) - (x2 * ((f_X12_hourOf x7 S) - x3))))), (6, .int (f_X12_lower x6 ((S 168 x7.toInt.toNat) + (x2 * ((f_X12_hourOf x7 S) - x3))))), (7, .int (x7 + (Int32.ofInt 1))), (8, .int (x2 * ((f_X12_hourOf x7 S) - x3)))]) (show ([7, 6, 5, 8, 0, 1, 2, 3, 4] : List Nat).Nodup by decide) (show ([0, 1, 2, 3, 4, 5, 6, 7, 8] : List Nat).Nodup by decide) (fun i => match i with | 0 => rfl | 1 => rfl | 2 => rfl | 3 => rfl | 4 => rfl | 5 => rfl | 6 => rfl | 7 => rfl | 8 => rfl | _ + 9 => rfl) ?_
                exact (ih m hm).2.2 d (x2 * ((f_X12_hourOf x7 S) - x3)) x1 x2 x3 x4 (f_X12_higher x5 ((S 167 x7.toInt.toNat) - (x2 * ((f_X12_hourOf x7 S) - x3)))) (f_X12_lower x6 ((S 168 x7.toInt.toNat) + (x2 * ((f_X12_hourOf x7 S) - x3)))) (x7 + (Int32.ofInt 1)) S hD
              · have hD := hD.2 h17
                show u_P L xs m d m_X12_escaped 287 [(6, .int (f_X12_lower x6 ((S 168 x7.toInt.toNat) + (x2 * ((f_X12_hourOf x7 S) - x3))))), (5, .int (f_X12_higher x5 ((S 167 x7.toInt.toNat) - (x2 * ((f_X12_hourOf x7 S) - x3))))), (8, .int (x2 * ((f_X12_hourOf x7 S) - x3))), (0, .ref 100), (1, .int x1), (2, .int x2), (3, .int x3), (4, .int x4), (7, .int x7)] [] S R _
                refine u_st rfl (fun _ => rfl) ?_
                show u_P L xs m d m_X12_escaped 289 [(6, .int (f_X12_lower x6 ((S 168 x7.toInt.toNat) + (x2 * ((f_X12_hourOf x7 S) - x3))))), (5, .int (f_X12_higher x5 ((S 167 x7.toInt.toNat) - (x2 * ((f_X12_hourOf x7 S) - x3))))), (8, .int (x2 * ((f_X12_hourOf x7 S) - x3))), (0, .ref 100), (1, .int x1), (2, .int x2), (3, .int x3), (4, .int x4), (7, .int x7)] [.int x7] S R _
                refine u_if_eq rfl (fun h18 => ?_) (fun h18 => ?_)
                · have hD := hD.1 h18
                  show u_P L xs m d m_X12_escaped 304 [(6, .int (f_X12_lower x6 ((S 168 x7.toInt.toNat) + (x2 * ((f_X12_hourOf x7 S) - x3))))), (5, .int (f_X12_higher x5 ((S 167 x7.toInt.toNat) - (x2 * ((f_X12_hourOf x7 S) - x3))))), (8, .int (x2 * ((f_X12_hourOf x7 S) - x3))), (0, .ref 100), (1, .int x1), (2, .int x2), (3, .int x3), (4, .int x4), (7, .int x7)] [] S R _
                  refine u_st rfl (fun _ => rfl) ?_
                  refine u_st rfl (fun _ => rfl) ?_
                  show u_P L xs m d m_X12_escaped 307 [(6, .int (f_X12_lower x6 ((S 168 x7.toInt.toNat) + (x2 * ((f_X12_hourOf x7 S) - x3))))), (5, .int (f_X12_higher x5 ((S 167 x7.toInt.toNat) - (x2 * ((f_X12_hourOf x7 S) - x3))))), (8, .int (x2 * ((f_X12_hourOf x7 S) - x3))), (0, .ref 100), (1, .int x1), (2, .int x2), (3, .int x3), (4, .int x4), (7, .int x7)] [.ref 100, .int (f_X12_higher x5 ((S 167 x7.toInt.toNat) - (x2 * ((f_X12_hourOf x7 S) - x3))))] S R _
                  refine u_getr rfl v_tyM rfl ?_
                  refine u_st rfl (fun _ => rfl) ?_
                  show u_P L xs m d m_X12_escaped 312 [(6, .int (f_X12_lower x6 ((S 168 x7.toInt.toNat) + (x2 * ((f_X12_hourOf x7 S) - x3))))), (5, .int (f_X12_higher x5 ((S 167 x7.toInt.toNat) - (x2 * ((f_X12_hourOf x7 S) - x3))))), (8, .int (x2 * ((f_X12_hourOf x7 S) - x3))), (0, .ref 100), (1, .int x1), (2, .int x2), (3, .int x3), (4, .int x4), (7, .int x7)] [.int x7, .ref 170, .int (f_X12_higher x5 ((S 167 x7.toInt.toNat) - (x2 * ((f_X12_hourOf x7 S) - x3))))] S R _
                  refine u_ialdE (v := S 169 x7.toInt.toNat) rfl rfl rfl (fun b191 b192 => ?_)
                  have hD := hD b191 b192
                  show u_P L xs m d m_X12_escaped 313 [(6, .int (f_X12_lower x6 ((S 168 x7.toInt.toNat) + (x2 * ((f_X12_hourOf x7 S) - x3))))), (5, .int (f_X12_higher x5 ((S 167 x7.toInt.toNat) - (x2 * ((f_X12_hourOf x7 S) - x3))))), (8, .int (x2 * ((f_X12_hourOf x7 S) - x3))), (0, .ref 100), (1, .int x1), (2, .int x2), (3, .int x3), (4, .int x4), (7, .int x7)] [.int (S 169 x7.toInt.toNat), .int (f_X12_higher x5 ((S 167 x7.toInt.toNat) - (x2 * ((f_X12_hourOf x7 S) - x3))))] S R _
                  refine u_st rfl (fun _ => rfl) ?_
                  refine u_st rfl (fun _ => rfl) ?_
                  show u_P L xs m d m_X12_escaped 316 [(6, .int (f_X12_lower x6 ((S 168 x7.toInt.toNat) + (x2 * ((f_X12_hourOf x7 S) - x3))))), (5, .int (f_X12_higher x5 ((S 167 x7.toInt.toNat) - (x2 * ((f_X12_hourOf x7 S) - x3))))), (8, .int (x2 * ((f_X12_hourOf x7 S) - x3))), (0, .ref 100), (1, .int x1), (2, .int x2), (3, .int x3), (4, .int x4), (7, .int x7)] [.int ((S 169 x7.toInt.toNat) - (x2 * ((f_X12_hourOf x7 S) - x3))), .int (f_X12_higher x5 ((S 167 x7.toInt.toNat) - (x2 * ((f_X12_hourOf x7 S) - x3))))] S R _
                  refine u_cs (ac := [.int (f_X12_higher x5 ((S 167 x7.toInt.toNat) - (x2 * ((f_X12_hourOf x7 S) - x3)))), .int ((S 169 x7.toInt.toNat) - (x2 * ((f_X12_hourOf x7 S) - x3)))]) (rest := []) rfl (by decide) mt_X12_higher (fun _ => rfl) (Nat.le_of_ble_eq_true rfl) (Nat.le_of_ble_eq_true rfl) (fun d' => c_X12_higher L xs m d' (f_X12_higher x5 ((S 167 x7.toInt.toNat) - (x2 * ((f_X12_hourOf x7 S) - x3)))) ((S 169 x7.toInt.toNat) - (x2 * ((f_X12_hourOf x7 S) - x3))) S R) ?_
                  rintro _ _ _ ⟨_, rfl, rfl, rfl, rfl⟩
                  refine u_st rfl (fun _ => rfl) ?_
                  refine u_st rfl (fun _ => rfl) ?_
                  refine u_st rfl (fun _ => rfl) ?_
                  show u_P L xs m d m_X12_escaped 324 [(5, .int (f_X12_higher (f_X12_higher x5 ((S 167 x7.toInt.toNat) - (x2 * ((f_X12_hourOf x7 S) - x3)))) ((S 169 x7.toInt.toNat) - (x2 * ((f_X12_hourOf x7 S) - x3))))), (6, .int (f_X12_lower x6 ((S 168 x7.toInt.toNat) + (x2 * ((f_X12_hourOf x7 S) - x3))))), (8, .int (x2 * ((f_X12_hourOf x7 S) - x3))), (0, .ref 100), (1, .int x1), (2, .int x2), (3, .int x3), (4, .int x4), (7, .int x7)] [.ref 100, .int (f_X12_lower x6 ((S 168 x7.toInt.toNat) + (x2 * ((f_X12_hourOf x7 S) - x3))))] S R _
                  refine u_getr rfl v_tyM rfl ?_
                  refine u_st rfl (fun _ => rfl) ?_
                  show u_P L xs m d m_X12_escaped 329 [(5, .int (f_X12_higher (f_X12_higher x5 ((S 167 x7.toInt.toNat) - (x2 * ((f_X12_hourOf x7 S) - x3)))) ((S 169 x7.toInt.toNat) - (x2 * ((f_X12_hourOf x7 S) - x3))))), (6, .int (f_X12_lower x6 ((S 168 x7.toInt.toNat) + (x2 * ((f_X12_hourOf x7 S) - x3))))), (8, .int (x2 * ((f_X12_hourOf x7 S) - x3))), (0, .ref 100), (1, .int x1), (2, .int x2), (3, .int x3), (4, .int x4), (7, .int x7)] [.int x7, .ref 171, .int (f_X12_lower x6 ((S 168 x7.toInt.toNat) + (x2 * ((f_X12_hourOf x7 S) - x3))))] S R _
                  refine u_ialdE (v := S 170 x7.toInt.toNat) rfl rfl rfl (fun b201 b202 => ?_)
                  have hD := hD b201 b202
                  show u_P L xs m d m_X12_escaped 330 [(5, .int (f_X12_higher (f_X12_higher x5 ((S 167 x7.toInt.toNat) - (x2 * ((f_X12_hourOf x7 S) - x3)))) ((S 169 x7.toInt.toNat) - (x2 * ((f_X12_hourOf x7 S) - x3))))), (6, .int (f_X12_lower x6 ((S 168 x7.toInt.toNat) + (x2 * ((f_X12_hourOf x7 S) - x3))))), (8, .int (x2 * ((f_X12_hourOf x7 S) - x3))), (0, .ref 100), (1, .int x1), (2, .int x2), (3, .int x3), (4, .int x4), (7, .int x7)] [.int (S 170 x7.toInt.toNat), .int (f_X12_lower x6 ((S 168 x7.toInt.toNat) + (x2 * ((f_X12_hourOf x7 S) - x3))))] S R _
                  refine u_st rfl (fun _ => rfl) ?_
                  refine u_st rfl (fun _ => rfl) ?_
                  show u_P L xs m d m_X12_escaped 333 [(5, .int (f_X12_higher (f_X12_higher x5 ((S 167 x7.toInt.toNat) - (x2 * ((f_X12_hourOf x7 S) - x3)))) ((S 169 x7.toInt.toNat) - (x2 * ((f_X12_hourOf x7 S) - x3))))), (6, .int (f_X12_lower x6 ((S 168 x7.toInt.toNat) + (x2 * ((f_X12_hourOf x7 S) - x3))))), (8, .int (x2 * ((f_X12_hourOf x7 S) - x3))), (0, .ref 100), (1, .int x1), (2, .int x2), (3, .int x3), (4, .int x4), (7, .int x7)] [.int ((S 170 x7.toInt.toNat) + (x2 * ((f_X12_hourOf x7 S) - x3))), .int (f_X12_lower x6 ((S 168 x7.toInt.toNat) + (x2 * ((f_X12_hourOf x7 S) - x3))))] S R _
                  refine u_cs (ac := [.int (f_X12_lower x6 ((S 168 x7.toInt.toNat) + (x2 * ((f_X12_hourOf x7 S) - x3)))), .int ((S 170 x7.toInt.toNat) + (x2 * ((f_X12_hourOf x7 S) - x3)))]) (rest := []) rfl (by decide) mt_X12_lower (fun _ => rfl) (Nat.le_of_ble_eq_true rfl) (Nat.le_of_ble_eq_true rfl) (fun d' => c_X12_lower L xs m d' (f_X12_lower x6 ((S 168 x7.toInt.toNat) + (x2 * ((f_X12_hourOf x7 S) - x3)))) ((S 170 x7.toInt.toNat) + (x2 * ((f_X12_hourOf x7 S) - x3))) S R) ?_
                  rintro _ _ _ ⟨_, rfl, rfl, rfl, rfl⟩
                  refine u_st rfl (fun _ => rfl) ?_
                  refine u_st rfl (fun _ => rfl) ?_
                  refine u_st rfl (fun _ => rfl) ?_
                  refine u_lc (b := [(0, .ref 100), (1, .int x1), (2, .int x2), (3, .int x3), (4, .int x4), (5, .int (f_X12_higher (f_X12_higher x5 ((S 167 x7.toInt.toNat) - (x2 * ((f_X12_hourOf x7 S) - x3)))) ((S 169 x7.toInt.toNat) - (x2 * ((f_X12_hourOf x7 S) - x3))))), (6, .int (f_X12_lower (f_X12_lower x6 ((S 168 x7.toInt.toNat) + (x2 * ((f_X12_hourOf x7 S) - x3)))) ((S 170 x7.toInt.toNat) + (x2 * ((f_X12_hourOf x7 S) - x3))))), (7, .int (x7 + (Int32.ofInt 1))), (8, .int (x2 * ((f_X12_hourOf x7 S) - x3)))]) (show ([7, 6, 5, 8, 0, 1, 2, 3, 4] : List Nat).Nodup by decide) (show ([0, 1, 2, 3, 4, 5, 6, 7, 8] : List Nat).Nodup by decide) (fun i => match i with | 0 => rfl | 1 => rfl | 2 => rfl | 3 => rfl | 4 => rfl | 5 => rfl | 6 => rfl | 7 => rfl | 8 => rfl | _ + 9 => rfl) ?_
                  exact (ih m hm).2.2 d (x2 * ((f_X12_hourOf x7 S) - x3)) x1 x2 x3 x4 (f_X12_higher (f_X12_higher x5 ((S 167 x7.toInt.toNat) - (x2 * ((f_X12_hourOf x7 S) - x3)))) ((S 169 x7.toInt.toNat) - (x2 * ((f_X12_hourOf x7 S) - x3)))) (f_X12_lower (f_X12_lower x6 ((S 168 x7.toInt.toNat) + (x2 * ((f_X12_hourOf x7 S) - x3)))) ((S 170 x7.toInt.toNat) + (x2 * ((f_X12_hourOf x7 S) - x3)))) (x7 + (Int32.ofInt 1)) S hD
                · have hD := hD.2 h18
                  show u_P L xs m d m_X12_escaped 292 [(6, .int (f_X12_lower x6 ((S 168 x7.toInt.toNat) + (x2 * ((f_X12_hourOf x7 S) - x3))))), (5, .int (f_X12_higher x5 ((S 167 x7.toInt.toNat) - (x2 * ((f_X12_hourOf x7 S) - x3))))), (8, .int (x2 * ((f_X12_hourOf x7 S) - x3))), (0, .ref 100), (1, .int x1), (2, .int x2), (3, .int x3), (4, .int x4), (7, .int x7)] [] S R _
                  refine u_st rfl (fun _ => rfl) ?_
                  refine u_st rfl (fun _ => rfl) ?_
                  refine u_st rfl (fun _ => rfl) ?_
                  refine u_st rfl (fun _ => rfl) ?_
                  show u_P L xs m d m_X12_escaped 297 [(6, .int (f_X12_lower x6 ((S 168 x7.toInt.toNat) + (x2 * ((f_X12_hourOf x7 S) - x3))))), (5, .int (f_X12_higher x5 ((S 167 x7.toInt.toNat) - (x2 * ((f_X12_hourOf x7 S) - x3))))), (8, .int (x2 * ((f_X12_hourOf x7 S) - x3))), (0, .ref 100), (1, .int x1), (2, .int x2), (3, .int x3), (4, .int x4), (7, .int x7)] [.int (x7 - (Int32.ofInt 1)), .ref 100] S R _
                  refine u_cv (rest := []) rfl (by decide) mt_X12_hourOf v_tyM rfl rfl rfl (Nat.le_of_ble_eq_true rfl) (Nat.le_of_ble_eq_true rfl) (Nat.le_of_ble_eq_true rfl) (fun d' => c_X12_hourOf L xs m d' (x7 - (Int32.ofInt 1)) S R) ?_
                  rintro _ _ _ ⟨_, rfl, rfl, rfl, rfl⟩
                  refine u_st rfl (fun _ => rfl) ?_
                  show u_P L xs m d m_X12_escaped 301 [(6, .int (f_X12_lower x6 ((S 168 x7.toInt.toNat) + (x2 * ((f_X12_hourOf x7 S) - x3))))), (5, .int (f_X12_higher x5 ((S 167 x7.toInt.toNat) - (x2 * ((f_X12_hourOf x7 S) - x3))))), (8, .int (x2 * ((f_X12_hourOf x7 S) - x3))), (0, .ref 100), (1, .int x1), (2, .int x2), (3, .int x3), (4, .int x4), (7, .int x7)] [.int x3, .int (f_X12_hourOf (x7 - (Int32.ofInt 1)) S)] S R _
                  refine u_ic_gt rfl (fun h21 => ?_) (fun h21 => ?_)
                  · have hD := hD.1 h21
                    show u_P L xs m d m_X12_escaped 338 [(6, .int (f_X12_lower x6 ((S 168 x7.toInt.toNat) + (x2 * ((f_X12_hourOf x7 S) - x3))))), (5, .int (f_X12_higher x5 ((S 167 x7.toInt.toNat) - (x2 * ((f_X12_hourOf x7 S) - x3))))), (8, .int (x2 * ((f_X12_hourOf x7 S) - x3))), (0, .ref 100), (1, .int x1), (2, .int x2), (3, .int x3), (4, .int x4), (7, .int x7)] [] S R _
                    refine u_st rfl (fun _ => rfl) ?_
                    refine u_st rfl (fun _ => rfl) ?_
                    refine u_lc (b := [(0, .ref 100), (1, .int x1), (2, .int x2), (3, .int x3), (4, .int x4), (5, .int (f_X12_higher x5 ((S 167 x7.toInt.toNat) - (x2 * ((f_X12_hourOf x7 S) - x3))))), (6, .int (f_X12_lower x6 ((S 168 x7.toInt.toNat) + (x2 * ((f_X12_hourOf x7 S) - x3))))), (7, .int (x7 + (Int32.ofInt 1))), (8, .int (x2 * ((f_X12_hourOf x7 S) - x3)))]) (show ([7, 6, 5, 8, 0, 1, 2, 3, 4] : List Nat).Nodup by decide) (show ([0, 1, 2, 3, 4, 5, 6, 7, 8] : List Nat).Nodup by decide) (fun i => match i with | 0 => rfl | 1 => rfl | 2 => rfl | 3 => rfl | 4 => rfl | 5 => rfl | 6 => rfl | 7 => rfl | 8 => rfl | _ + 9 => rfl) ?_
                    exact (ih m hm).2.2 d (x2 * ((f_X12_hourOf x7 S) - x3)) x1 x2 x3 x4 (f_X12_higher x5 ((S 167 x7.toInt.toNat) - (x2 * ((f_X12_hourOf x7 S) - x3)))) (f_X12_lower x6 ((S 168 x7.toInt.toNat) + (x2 * ((f_X12_hourOf x7 S) - x3)))) (x7 + (Int32.ofInt 1)) S hD
                  · have hD := hD.2 h21
                    show u_P L xs m d m_X12_escaped 304 [(6, .int (f_X12_lower x6 ((S 168 x7.toInt.toNat) + (x2 * ((f_X12_hourOf x7 S) - x3))))), (5, .int (f_X12_higher x5 ((S 167 x7.toInt.toNat) - (x2 * ((f_X12_hourOf x7 S) - x3))))), (8, .int (x2 * ((f_X12_hourOf x7 S) - x3))), (0, .ref 100), (1, .int x1), (2, .int x2), (3, .int x3), (4, .int x4), (7, .int x7)] [] S R _
                    refine u_st rfl (fun _ => rfl) ?_
                    refine u_st rfl (fun _ => rfl) ?_
                    show u_P L xs m d m_X12_escaped 307 [(6, .int (f_X12_lower x6 ((S 168 x7.toInt.toNat) + (x2 * ((f_X12_hourOf x7 S) - x3))))), (5, .int (f_X12_higher x5 ((S 167 x7.toInt.toNat) - (x2 * ((f_X12_hourOf x7 S) - x3))))), (8, .int (x2 * ((f_X12_hourOf x7 S) - x3))), (0, .ref 100), (1, .int x1), (2, .int x2), (3, .int x3), (4, .int x4), (7, .int x7)] [.ref 100, .int (f_X12_higher x5 ((S 167 x7.toInt.toNat) - (x2 * ((f_X12_hourOf x7 S) - x3))))] S R _
                    refine u_getr rfl v_tyM rfl ?_
                    refine u_st rfl (fun _ => rfl) ?_
                    show u_P L xs m d m_X12_escaped 312 [(6, .int (f_X12_lower x6 ((S 168 x7.toInt.toNat) + (x2 * ((f_X12_hourOf x7 S) - x3))))), (5, .int (f_X12_higher x5 ((S 167 x7.toInt.toNat) - (x2 * ((f_X12_hourOf x7 S) - x3))))), (8, .int (x2 * ((f_X12_hourOf x7 S) - x3))), (0, .ref 100), (1, .int x1), (2, .int x2), (3, .int x3), (4, .int x4), (7, .int x7)] [.int x7, .ref 170, .int (f_X12_higher x5 ((S 167 x7.toInt.toNat) - (x2 * ((f_X12_hourOf x7 S) - x3))))] S R _
                    refine u_ialdE (v := S 169 x7.toInt.toNat) rfl rfl rfl (fun b221 b222 => ?_)
                    have hD := hD b221 b222
                    show u_P L xs m d m_X12_escaped 313 [(6, .int (f_X12_lower x6 ((S 168 x7.toInt.toNat) + (x2 * ((f_X12_hourOf x7 S) - x3))))), (5, .int (f_X12_higher x5 ((S 167 x7.toInt.toNat) - (x2 * ((f_X12_hourOf x7 S) - x3))))), (8, .int (x2 * ((f_X12_hourOf x7 S) - x3))), (0, .ref 100), (1, .int x1), (2, .int x2), (3, .int x3), (4, .int x4), (7, .int x7)] [.int (S 169 x7.toInt.toNat), .int (f_X12_higher x5 ((S 167 x7.toInt.toNat) - (x2 * ((f_X12_hourOf x7 S) - x3))))] S R _
                    refine u_st rfl (fun _ => rfl) ?_
                    refine u_st rfl (fun _ => rfl) ?_
                    show u_P L xs m d m_X12_escaped 316 [(6, .int (f_X12_lower x6 ((S 168 x7.toInt.toNat) + (x2 * ((f_X12_hourOf x7 S) - x3))))), (5, .int (f_X12_higher x5 ((S 167 x7.toInt.toNat) - (x2 * ((f_X12_hourOf x7 S) - x3))))), (8, .int (x2 * ((f_X12_hourOf x7 S) - x3))), (0, .ref 100), (1, .int x1), (2, .int x2), (3, .int x3), (4, .int x4), (7, .int x7)] [.int ((S 169 x7.toInt.toNat) - (x2 * ((f_X12_hourOf x7 S) - x3))), .int (f_X12_higher x5 ((S 167 x7.toInt.toNat) - (x2 * ((f_X12_hourOf x7 S) - x3))))] S R _
                    refine u_cs (ac := [.int (f_X12_higher x5 ((S 167 x7.toInt.toNat) - (x2 * ((f_X12_hourOf x7 S) - x3)))), .int ((S 169 x7.toInt.toNat) - (x2 * ((f_X12_hourOf x7 S) - x3)))]) (rest := []) rfl (by decide) mt_X12_higher (fun _ => rfl) (Nat.le_of_ble_eq_true rfl) (Nat.le_of_ble_eq_true rfl) (fun d' => c_X12_higher L xs m d' (f_X12_higher x5 ((S 167 x7.toInt.toNat) - (x2 * ((f_X12_hourOf x7 S) - x3)))) ((S 169 x7.toInt.toNat) - (x2 * ((f_X12_hourOf x7 S) - x3))) S R) ?_
                    rintro _ _ _ ⟨_, rfl, rfl, rfl, rfl⟩
                    refine u_st rfl (fun _ => rfl) ?_
                    refine u_st rfl (fun _ => rfl) ?_
                    refine u_st rfl (fun _ => rfl) ?_
                    show u_P L xs m d m_X12_escaped 324 [(5, .int (f_X12_higher (f_X12_higher x5 ((S 167 x7.toInt.toNat) - (x2 * ((f_X12_hourOf x7 S) - x3)))) ((S 169 x7.toInt.toNat) - (x2 * ((f_X12_hourOf x7 S) - x3))))), (6, .int (f_X12_lower x6 ((S 168 x7.toInt.toNat) + (x2 * ((f_X12_hourOf x7 S) - x3))))), (8, .int (x2 * ((f_X12_hourOf x7 S) - x3))), (0, .ref 100), (1, .int x1), (2, .int x2), (3, .int x3), (4, .int x4), (7, .int x7)] [.ref 100, .int (f_X12_lower x6 ((S 168 x7.toInt.toNat) + (x2 * ((f_X12_hourOf x7 S) - x3))))] S R _
                    refine u_getr rfl v_tyM rfl ?_
                    refine u_st rfl (fun _ => rfl) ?_
                    show u_P L xs m d m_X12_escaped 329 [(5, .int (f_X12_higher (f_X12_higher x5 ((S 167 x7.toInt.toNat) - (x2 * ((f_X12_hourOf x7 S) - x3)))) ((S 169 x7.toInt.toNat) - (x2 * ((f_X12_hourOf x7 S) - x3))))), (6, .int (f_X12_lower x6 ((S 168 x7.toInt.toNat) + (x2 * ((f_X12_hourOf x7 S) - x3))))), (8, .int (x2 * ((f_X12_hourOf x7 S) - x3))), (0, .ref 100), (1, .int x1), (2, .int x2), (3, .int x3), (4, .int x4), (7, .int x7)] [.int x7, .ref 171, .int (f_X12_lower x6 ((S 168 x7.toInt.toNat) + (x2 * ((f_X12_hourOf x7 S) - x3))))] S R _
                    refine u_ialdE (v := S 170 x7.toInt.toNat) rfl rfl rfl (fun b231 b232 => ?_)
                    have hD := hD b231 b232
                    show u_P L xs m d m_X12_escaped 330 [(5, .int (f_X12_higher (f_X12_higher x5 ((S 167 x7.toInt.toNat) - (x2 * ((f_X12_hourOf x7 S) - x3)))) ((S 169 x7.toInt.toNat) - (x2 * ((f_X12_hourOf x7 S) - x3))))), (6, .int (f_X12_lower x6 ((S 168 x7.toInt.toNat) + (x2 * ((f_X12_hourOf x7 S) - x3))))), (8, .int (x2 * ((f_X12_hourOf x7 S) - x3))), (0, .ref 100), (1, .int x1), (2, .int x2), (3, .int x3), (4, .int x4), (7, .int x7)] [.int (S 170 x7.toInt.toNat), .int (f_X12_lower x6 ((S 168 x7.toInt.toNat) + (x2 * ((f_X12_hourOf x7 S) - x3))))] S R _
                    refine u_st rfl (fun _ => rfl) ?_
                    refine u_st rfl (fun _ => rfl) ?_
                    show u_P L xs m d m_X12_escaped 333 [(5, .int (f_X12_higher (f_X12_higher x5 ((S 167 x7.toInt.toNat) - (x2 * ((f_X12_hourOf x7 S) - x3)))) ((S 169 x7.toInt.toNat) - (x2 * ((f_X12_hourOf x7 S) - x3))))), (6, .int (f_X12_lower x6 ((S 168 x7.toInt.toNat) + (x2 * ((f_X12_hourOf x7 S) - x3))))), (8, .int (x2 * ((f_X12_hourOf x7 S) - x3))), (0, .ref 100), (1, .int x1), (2, .int x2), (3, .int x3), (4, .int x4), (7, .int x7)] [.int ((S 170 x7.toInt.toNat) + (x2 * ((f_X12_hourOf x7 S) - x3))), .int (f_X12_lower x6 ((S 168 x7.toInt.toNat) + (x2 * ((f_X12_hourOf x7 S) - x3))))] S R _
                    refine u_cs (ac := [.int (f_X12_lower x6 ((S 168 x7.toInt.toNat) + (x2 * ((f_X12_hourOf x7 S) - x3)))), .int ((S 170 x7.toInt.toNat) + (x2 * ((f_X12_hourOf x7 S) - x3)))]) (rest := []) rfl (by decide) mt_X12_lower (fun _ => rfl) (Nat.le_of_ble_eq_true rfl) (Nat.le_of_ble_eq_true rfl) (fun d' => c_X12_lower L xs m d' (f_X12_lower x6 ((S 168 x7.toInt.toNat) + (x2 * ((f_X12_hourOf x7 S) - x3)))) ((S 170 x7.toInt.toNat) + (x2 * ((f_X12_hourOf x7 S) - x3))) S R) ?_
                    rintro _ _ _ ⟨_, rfl, rfl, rfl, rfl⟩
                    refine u_st rfl (fun _ => rfl) ?_
                    refine u_st rfl (fun _ => rfl) ?_
                    refine u_st rfl (fun _ => rfl) ?_
                    refine u_lc (b := [(0, .ref 100), (1, .int x1), (2, .int x2), (3, .int x3), (4, .int x4), (5, .int (f_X12_higher (f_X12_higher x5 ((S 167 x7.toInt.toNat) - (x2 * ((f_X12_hourOf x7 S) - x3)))) ((S 169 x7.toInt.toNat) - (x2 * ((f_X12_hourOf x7 S) - x3))))), (6, .int (f_X12_lower (f_X12_lower x6 ((S 168 x7.toInt.toNat) + (x2 * ((f_X12_hourOf x7 S) - x3)))) ((S 170 x7.toInt.toNat) + (x2 * ((f_X12_hourOf x7 S) - x3))))), (7, .int (x7 + (Int32.ofInt 1))), (8, .int (x2 * ((f_X12_hourOf x7 S) - x3)))]) (show ([7, 6, 5, 8, 0, 1, 2, 3, 4] : List Nat).Nodup by decide) (show ([0, 1, 2, 3, 4, 5, 6, 7, 8] : List Nat).Nodup by decide) (fun i => match i with | 0 => rfl | 1 => rfl | 2 => rfl | 3 => rfl | 4 => rfl | 5 => rfl | 6 => rfl | 7 => rfl | 8 => rfl | _ + 9 => rfl) ?_
                    exact (ih m hm).2.2 d (x2 * ((f_X12_hourOf x7 S) - x3)) x1 x2 x3 x4 (f_X12_higher (f_X12_higher x5 ((S 167 x7.toInt.toNat) - (x2 * ((f_X12_hourOf x7 S) - x3)))) ((S 169 x7.toInt.toNat) - (x2 * ((f_X12_hourOf x7 S) - x3)))) (f_X12_lower (f_X12_lower x6 ((S 168 x7.toInt.toNat) + (x2 * ((f_X12_hourOf x7 S) - x3)))) ((S 170 x7.toInt.toNat) + (x2 * ((f_X12_hourOf x7 S) - x3)))) (x7 + (Int32.ofInt 1)) S hD
            · have hD := hD.2 h14
              show u_P L xs m d m_X12_escaped 231 [(8, .int (x2 * ((f_X12_hourOf x7 S) - x3))), (0, .ref 100), (1, .int x1), (2, .int x2), (3, .int x3), (4, .int x4), (5, .int x5), (6, .int x6), (7, .int x7)] [] S R _
              refine u_st rfl (fun _ => rfl) ?_
              refine u_st rfl (fun _ => rfl) ?_
              refine u_st rfl (fun _ => rfl) ?_
              refine u_st rfl (fun _ => rfl) ?_
              show u_P L xs m d m_X12_escaped 236 [(8, .int (x2 * ((f_X12_hourOf x7 S) - x3))), (0, .ref 100), (1, .int x1), (2, .int x2), (3, .int x3), (4, .int x4), (5, .int x5), (6, .int x6), (7, .int x7)] [.int (x7 + (Int32.ofInt 1)), .ref 100] S R _
              refine u_cv (rest := []) rfl (by decide) mt_X12_hourOf v_tyM rfl rfl rfl (Nat.le_of_ble_eq_true rfl) (Nat.le_of_ble_eq_true rfl) (Nat.le_of_ble_eq_true rfl) (fun d' => c_X12_hourOf L xs m d' (x7 + (Int32.ofInt 1)) S R) ?_
              rintro _ _ _ ⟨_, rfl, rfl, rfl, rfl⟩
              refine u_st rfl (fun _ => rfl) ?_
              show u_P L xs m d m_X12_escaped 240 [(8, .int (x2 * ((f_X12_hourOf x7 S) - x3))), (0, .ref 100), (1, .int x1), (2, .int x2), (3, .int x3), (4, .int x4), (5, .int x5), (6, .int x6), (7, .int x7)] [.int x3, .int (f_X12_hourOf (x7 + (Int32.ofInt 1)) S)] S R _
              refine u_ic_le rfl (fun h24 => ?_) (fun h24 => ?_)
              · have hD := hD.1 h24
                show u_P L xs m d m_X12_escaped 277 [(8, .int (x2 * ((f_X12_hourOf x7 S) - x3))), (0, .ref 100), (1, .int x1), (2, .int x2), (3, .int x3), (4, .int x4), (5, .int x5), (6, .int x6), (7, .int x7)] [] S R _
                refine u_st rfl (fun _ => rfl) ?_
                refine u_st rfl (fun _ => rfl) ?_
                show u_P L xs m d m_X12_escaped 280 [(8, .int (x2 * ((f_X12_hourOf x7 S) - x3))), (0, .ref 100), (1, .int x1), (2, .int x2), (3, .int x3), (4, .int x4), (5, .int x5), (6, .int x6), (7, .int x7)] [.int x7, .ref 100] S R _
                refine u_cv (rest := []) rfl (by decide) mt_X12_hourOf v_tyM rfl rfl rfl (Nat.le_of_ble_eq_true rfl) (Nat.le_of_ble_eq_true rfl) (Nat.le_of_ble_eq_true rfl) (fun d' => c_X12_hourOf L xs m d' x7 S R) ?_
                rintro _ _ _ ⟨_, rfl, rfl, rfl, rfl⟩
                refine u_st rfl (fun _ => rfl) ?_
                show u_P L xs m d m_X12_escaped 284 [(8, .int (x2 * ((f_X12_hourOf x7 S) - x3))), (0, .ref 100), (1, .int x1), (2, .int x2), (3, .int x3), (4, .int x4), (5, .int x5), (6, .int x6), (7, .int x7)] [.int x3, .int (f_X12_hourOf x7 S)] S R _
                refine u_ic_le rfl (fun h25 => ?_) (fun h25 => ?_)
                · have hD := hD.1 h25
                  show u_P L xs m d m_X12_escaped 338 [(8, .int (x2 * ((f_X12_hourOf x7 S) - x3))), (0, .ref 100), (1, .int x1), (2, .int x2), (3, .int x3), (4, .int x4), (5, .int x5), (6, .int x6), (7, .int x7)] [] S R _
                  refine u_st rfl (fun _ => rfl) ?_
                  refine u_st rfl (fun _ => rfl) ?_
                  refine u_lc (b := [(0, .ref 100), (1, .int x1), (2, .int x2), (3, .int x3), (4, .int x4), (5, .int x5), (6, .int x6), (7, .int (x7 + (Int32.ofInt 1))), (8, .int (x2 * ((f_X12_hourOf x7 S) - x3)))]) (show ([7, 8, 0, 1, 2, 3, 4, 5, 6] : List Nat).Nodup by decide) (show ([0, 1, 2, 3, 4, 5, 6, 7, 8] : List Nat).Nodup by decide) (fun i => match i with | 0 => rfl | 1 => rfl | 2 => rfl | 3 => rfl | 4 => rfl | 5 => rfl | 6 => rfl | 7 => rfl | 8 => rfl | _ + 9 => rfl) ?_
                  exact (ih m hm).2.2 d (x2 * ((f_X12_hourOf x7 S) - x3)) x1 x2 x3 x4 x5 x6 (x7 + (Int32.ofInt 1)) S hD
                · have hD := hD.2 h25
                  show u_P L xs m d m_X12_escaped 287 [(8, .int (x2 * ((f_X12_hourOf x7 S) - x3))), (0, .ref 100), (1, .int x1), (2, .int x2), (3, .int x3), (4, .int x4), (5, .int x5), (6, .int x6), (7, .int x7)] [] S R _
                  refine u_st rfl (fun _ => rfl) ?_
                  show u_P L xs m d m_X12_escaped 289 [(8, .int (x2 * ((f_X12_hourOf x7 S) - x3))), (0, .ref 100), (1, .int x1), (2, .int x2), (3, .int x3), (4, .int x4), (5, .int x5), (6, .int x6), (7, .int x7)] [.int x7] S R _
                  refine u_if_eq rfl (fun h26 => ?_) (fun h26 => ?_)
                  · have hD := hD.1 h26
                    show u_P L xs m d m_X12_escaped 304 [(8, .int (x2 * ((f_X12_hourOf x7 S) - x3))), (0, .ref 100), (1, .int x1), (2, .int x2), (3, .int x3), (4, .int x4), (5, .int x5), (6, .int x6), (7, .int x7)] [] S R _
                    refine u_st rfl (fun _ => rfl) ?_
                    refine u_st rfl (fun _ => rfl) ?_
                    show u_P L xs m d m_X12_escaped 307 [(8, .int (x2 * ((f_X12_hourOf x7 S) - x3))), (0, .ref 100), (1, .int x1), (2, .int x2), (3, .int x3), (4, .int x4), (5, .int x5), (6, .int x6), (7, .int x7)] [.ref 100, .int x5] S R _
                    refine u_getr rfl v_tyM rfl ?_
                    refine u_st rfl (fun _ => rfl) ?_
                    show u_P L xs m d m_X12_escaped 312 [(8, .int (x2 * ((f_X12_hourOf x7 S) - x3))), (0, .ref 100), (1, .int x1), (2, .int x2), (3, .int x3), (4, .int x4), (5, .int x5), (6, .int x6), (7, .int x7)] [.int x7, .ref 170, .int x5] S R _
                    refine u_ialdE (v := S 169 x7.toInt.toNat) rfl rfl rfl (fun b271 b272 => ?_)
                    have hD := hD b271 b272
                    show u_P L xs m d m_X12_escaped 313 [(8, .int (x2 * ((f_X12_hourOf x7 S) - x3))), (0, .ref 100), (1, .int x1), (2, .int x2), (3, .int x3), (4, .int x4), (5, .int x5), (6, .int x6), (7, .int x7)] [.int (S 169 x7.toInt.toNat), .int x5] S R _
                    refine u_st rfl (fun _ => rfl) ?_
                    refine u_st rfl (fun _ => rfl) ?_
                    show u_P L xs m d m_X12_escaped 316 [(8, .int (x2 * ((f_X12_hourOf x7 S) - x3))), (0, .ref 100), (1, .int x1), (2, .int x2), (3, .int x3), (4, .int x4), (5, .int x5), (6, .int x6), (7, .int x7)] [.int ((S 169 x7.toInt.toNat) - (x2 * ((f_X12_hourOf x7 S) - x3))), .int x5] S R _
                    refine u_cs (ac := [.int x5, .int ((S 169 x7.toInt.toNat) - (x2 * ((f_X12_hourOf x7 S) - x3)))]) (rest := []) rfl (by decide) mt_X12_higher (fun _ => rfl) (Nat.le_of_ble_eq_true rfl) (Nat.le_of_ble_eq_true rfl) (fun d' => c_X12_higher L xs m d' x5 ((S 169 x7.toInt.toNat) - (x2 * ((f_X12_hourOf x7 S) - x3))) S R) ?_
                    rintro _ _ _ ⟨_, rfl, rfl, rfl, rfl⟩
                    refine u_st rfl (fun _ => rfl) ?_
                    refine u_st rfl (fun _ => rfl) ?_
                    refine u_st rfl (fun _ => rfl) ?_
                    show u_P L xs m d m_X12_escaped 324 [(5, .int (f_X12_higher x5 ((S 169 x7.toInt.toNat) - (x2 * ((f_X12_hourOf x7 S) - x3))))), (8, .int (x2 * ((f_X12_hourOf x7 S) - x3))), (0, .ref 100), (1, .int x1), (2, .int x2), (3, .int x3), (4, .int x4), (6, .int x6), (7, .int x7)] [.ref 100, .int x6] S R _
                    refine u_getr rfl v_tyM rfl ?_
                    refine u_st rfl (fun _ => rfl) ?_
                    show u_P L xs m d m_X12_escaped 329 [(5, .int (f_X12_higher x5 ((S 169 x7.toInt.toNat) - (x2 * ((f_X12_hourOf x7 S) - x3))))), (8, .int (x2 * ((f_X12_hourOf x7 S) - x3))), (0, .ref 100), (1, .int x1), (2, .int x2), (3, .int x3), (4, .int x4), (6, .int x6), (7, .int x7)] [.int x7, .ref 171, .int x6] S R _
                    refine u_ialdE (v := S 170 x7.toInt.toNat) rfl rfl rfl (fun b281 b282 => ?_)
                    have hD := hD b281 b282
                    show u_P L xs m d m_X12_escaped 330 [(5, .int (f_X12_higher x5 ((S 169 x7.toInt.toNat) - (x2 * ((f_X12_hourOf x7 S) - x3))))), (8, .int (x2 * ((f_X12_hourOf x7 S) - x3))), (0, .ref 100), (1, .int x1), (2, .int x2), (3, .int x3), (4, .int x4), (6, .int x6), (7, .int x7)] [.int (S 170 x7.toInt.toNat), .int x6] S R _
                    refine u_st rfl (fun _ => rfl) ?_
                    refine u_st rfl (fun _ => rfl) ?_
                    show u_P L xs m d m_X12_escaped 333 [(5, .int (f_X12_higher x5 ((S 169 x7.toInt.toNat) - (x2 * ((f_X12_hourOf x7 S) - x3))))), (8, .int (x2 * ((f_X12_hourOf x7 S) - x3))), (0, .ref 100), (1, .int x1), (2, .int x2), (3, .int x3), (4, .int x4), (6, .int x6), (7, .int x7)] [.int ((S 170 x7.toInt.toNat) + (x2 * ((f_X12_hourOf x7 S) - x3))), .int x6] S R _
                    refine u_cs (ac := [.int x6, .int ((S 170 x7.toInt.toNat) + (x2 * ((f_X12_hourOf x7 S) - x3)))]) (rest := []) rfl (by decide) mt_X12_lower (fun _ => rfl) (Nat.le_of_ble_eq_true rfl) (Nat.le_of_ble_eq_true rfl) (fun d' => c_X12_lower L xs m d' x6 ((S 170 x7.toInt.toNat) + (x2 * ((f_X12_hourOf x7 S) - x3))) S R) ?_
                    rintro _ _ _ ⟨_, rfl, rfl, rfl, rfl⟩
                    refine u_st rfl (fun _ => rfl) ?_
                    refine u_st rfl (fun _ => rfl) ?_
                    refine u_st rfl (fun _ => rfl) ?_
                    refine u_lc (b := [(0, .ref 100), (1, .int x1), (2, .int x2), (3, .int x3), (4, .int x4), (5, .int (f_X12_higher x5 ((S 169 x7.toInt.toNat) - (x2 * ((f_X12_hourOf x7 S) - x3))))), (6, .int (f_X12_lower x6 ((S 170 x7.toInt.toNat) + (x2 * ((f_X12_hourOf x7 S) - x3))))), (7, .int (x7 + (Int32.ofInt 1))), (8, .int (x2 * ((f_X12_hourOf x7 S) - x3)))]) (show ([7, 6, 5, 8, 0, 1, 2, 3, 4] : List Nat).Nodup by decide) (show ([0, 1, 2, 3, 4, 5, 6, 7, 8] : List Nat).Nodup by decide) (fun i => match i with | 0 => rfl | 1 => rfl | 2 => rfl | 3 => rfl | 4 => rfl | 5 => rfl | 6 => rfl | 7 => rfl | 8 => rfl | _ + 9 => rfl) ?_
                    exact (ih m hm).2.2 d (x2 * ((f_X12_hourOf x7 S) - x3)) x1 x2 x3 x4 (f_X12_higher x5 ((S 169 x7.toInt.toNat) - (x2 * ((f_X12_hourOf x7 S) - x3)))) (f_X12_lower x6 ((S 170 x7.toInt.toNat) + (x2 * ((f_X12_hourOf x7 S) - x3)))) (x7 + (Int32.ofInt 1)) S hD
                  · have hD := hD.2 h26
                    show u_P L xs m d m_X12_escaped 292 [(8, .int (x2 * ((f_X12_hourOf x7 S) - x3))), (0, .ref 100), (1, .int x1), (2, .int x2), (3, .int x3), (4, .int x4), (5, .int x5), (6, .int x6), (7, .int x7)] [] S R _
                    refine u_st rfl (fun _ => rfl) ?_
                    refine u_st rfl (fun _ => rfl) ?_
                    refine u_st rfl (fun _ => rfl) ?_
                    refine u_st rfl (fun _ => rfl) ?_
                    show u_P L xs m d m_X12_escaped 297 [(8, .int (x2 * ((f_X12_hourOf x7 S) - x3))), (0, .ref 100), (1, .int x1), (2, .int x2), (3, .int x3), (4, .int x4), (5, .int x5), (6, .int x6), (7, .int x7)] [.int (x7 - (Int32.ofInt 1)), .ref 100] S R _
                    refine u_cv (rest := []) rfl (by decide) mt_X12_hourOf v_tyM rfl rfl rfl (Nat.le_of_ble_eq_true rfl) (Nat.le_of_ble_eq_true rfl) (Nat.le_of_ble_eq_true rfl) (fun d' => c_X12_hourOf L xs m d' (x7 - (Int32.ofInt 1)) S R) ?_
                    rintro _ _ _ ⟨_, rfl, rfl, rfl, rfl⟩
                    refine u_st rfl (fun _ => rfl) ?_
                    show u_P L xs m d m_X12_escaped 301 [(8, .int (x2 * ((f_X12_hourOf x7 S) - x3))), (0, .ref 100), (1, .int x1), (2, .int x2), (3, .int x3), (4, .int x4), (5, .int x5), (6, .int x6), (7, .int x7)] [.int x3, .int (f_X12_hourOf (x7 - (Int32.ofInt 1)) S)] S R _
                    refine u_ic_gt rfl (fun h29 => ?_) (fun h29 => ?_)
                    · have hD := hD.1 h29
                      show u_P L xs m d m_X12_escaped 338 [(8, .int (x2 * ((f_X12_hourOf x7 S) - x3))), (0, .ref 100), (1, .int x1), (2, .int x2), (3, .int x3), (4, .int x4), (5, .int x5), (6, .int x6), (7, .int x7)] [] S R _
                      refine u_st rfl (fun _ => rfl) ?_
                      refine u_st rfl (fun _ => rfl) ?_
                      refine u_lc (b := [(0, .ref 100), (1, .int x1), (2, .int x2), (3, .int x3), (4, .int x4), (5, .int x5), (6, .int x6), (7, .int (x7 + (Int32.ofInt 1))), (8, .int (x2 * ((f_X12_hourOf x7 S) - x3)))]) (show ([7, 8, 0, 1, 2, 3, 4, 5, 6] : List Nat).Nodup by decide) (show ([0, 1, 2, 3, 4, 5, 6, 7, 8] : List Nat).Nodup by decide) (fun i => match i with | 0 => rfl | 1 => rfl | 2 => rfl | 3 => rfl | 4 => rfl | 5 => rfl | 6 => rfl | 7 => rfl | 8 => rfl | _ + 9 => rfl) ?_
                      exact (ih m hm).2.2 d (x2 * ((f_X12_hourOf x7 S) - x3)) x1 x2 x3 x4 x5 x6 (x7 + (Int32.ofInt 1)) S hD
                    · have hD := hD.2 h29
                      show u_P L xs m d m_X12_escaped 304 [(8, .int (x2 * ((f_X12_hourOf x7 S) - x3))), (0, .ref 100), (1, .int x1), (2, .int x2), (3, .int x3), (4, .int x4), (5, .int x5), (6, .int x6), (7, .int x7)] [] S R _
                      refine u_st rfl (fun _ => rfl) ?_
                      refine u_st rfl (fun _ => rfl) ?_
                      show u_P L xs m d m_X12_escaped 307 [(8, .int (x2 * ((f_X12_hourOf x7 S) - x3))), (0, .ref 100), (1, .int x1), (2, .int x2), (3, .int x3), (4, .int x4), (5, .int x5), (6, .int x6), (7, .int x7)] [.ref 100, .int x5] S R _
                      refine u_getr rfl v_tyM rfl ?_
                      refine u_st rfl (fun _ => rfl) ?_
                      show u_P L xs m d m_X12_escaped 312 [(8, .int (x2 * ((f_X12_hourOf x7 S) - x3))), (0, .ref 100), (1, .int x1), (2, .int x2), (3, .int x3), (4, .int x4), (5, .int x5), (6, .int x6), (7, .int x7)] [.int x7, .ref 170, .int x5] S R _
                      refine u_ialdE (v := S 169 x7.toInt.toNat) rfl rfl rfl (fun b301 b302 => ?_)
                      have hD := hD b301 b302
                      show u_P L xs m d m_X12_escaped 313 [(8, .int (x2 * ((f_X12_hourOf x7 S) - x3))), (0, .ref 100), (1, .int x1), (2, .int x2), (3, .int x3), (4, .int x4), (5, .int x5), (6, .int x6), (7, .int x7)] [.int (S 169 x7.toInt.toNat), .int x5] S R _
                      refine u_st rfl (fun _ => rfl) ?_
                      refine u_st rfl (fun _ => rfl) ?_
                      show u_P L xs m d m_X12_escaped 316 [(8, .int (x2 * ((f_X12_hourOf x7 S) - x3))), (0, .ref 100), (1, .int x1), (2, .int x2), (3, .int x3), (4, .int x4), (5, .int x5), (6, .int x6), (7, .int x7)] [.int ((S 169 x7.toInt.toNat) - (x2 * ((f_X12_hourOf x7 S) - x3))), .int x5] S R _
                      refine u_cs (ac := [.int x5, .int ((S 169 x7.toInt.toNat) - (x2 * ((f_X12_hourOf x7 S) - x3)))]) (rest := []) rfl (by decide) mt_X12_higher (fun _ => rfl) (Nat.le_of_ble_eq_true rfl) (Nat.le_of_ble_eq_true rfl) (fun d' => c_X12_higher L xs m d' x5 ((S 169 x7.toInt.toNat) - (x2 * ((f_X12_hourOf x7 S) - x3))) S R) ?_
                      rintro _ _ _ ⟨_, rfl, rfl, rfl, rfl⟩
                      refine u_st rfl (fun _ => rfl) ?_
                      refine u_st rfl (fun _ => rfl) ?_
                      refine u_st rfl (fun _ => rfl) ?_
                      show u_P L xs m d m_X12_escaped 324 [(5, .int (f_X12_higher x5 ((S 169 x7.toInt.toNat) - (x2 * ((f_X12_hourOf x7 S) - x3))))), (8, .int (x2 * ((f_X12_hourOf x7 S) - x3))), (0, .ref 100), (1, .int x1), (2, .int x2), (3, .int x3), (4, .int x4), (6, .int x6), (7, .int x7)] [.ref 100, .int x6] S R _
                      refine u_getr rfl v_tyM rfl ?_
                      refine u_st rfl (fun _ => rfl) ?_
                      show u_P L xs m d m_X12_escaped 329 [(5, .int (f_X12_higher x5 ((S 169 x7.toInt.toNat) - (x2 * ((f_X12_hourOf x7 S) - x3))))), (8, .int (x2 * ((f_X12_hourOf x7 S) - x3))), (0, .ref 100), (1, .int x1), (2, .int x2), (3, .int x3), (4, .int x4), (6, .int x6), (7, .int x7)] [.int x7, .ref 171, .int x6] S R _
                      refine u_ialdE (v := S 170 x7.toInt.toNat) rfl rfl rfl (fun b311 b312 => ?_)
                      have hD := hD b311 b312
                      show u_P L xs m d m_X12_escaped 330 [(5, .int (f_X12_higher x5 ((S 169 x7.toInt.toNat) - (x2 * ((f_X12_hourOf x7 S) - x3))))), (8, .int (x2 * ((f_X12_hourOf x7 S) - x3))), (0, .ref 100), (1, .int x1), (2, .int x2), (3, .int x3), (4, .int x4), (6, .int x6), (7, .int x7)] [.int (S 170 x7.toInt.toNat), .int x6] S R _
                      refine u_st rfl (fun _ => rfl) ?_
                      refine u_st rfl (fun _ => rfl) ?_
                      show u_P L xs m d m_X12_escaped 333 [(5, .int (f_X12_higher x5 ((S 169 x7.toInt.toNat) - (x2 * ((f_X12_hourOf x7 S) - x3))))), (8, .int (x2 * ((f_X12_hourOf x7 S) - x3))), (0, .ref 100), (1, .int x1), (2, .int x2), (3, .int x3), (4, .int x4), (6, .int x6), (7, .int x7)] [.int ((S 170 x7.toInt.toNat) + (x2 * ((f_X12_hourOf x7 S) - x3))), .int x6] S R _
                      refine u_cs (ac := [.int x6, .int ((S 170 x7.toInt.toNat) + (x2 * ((f_X12_hourOf x7 S) - x3)))]) (rest := []) rfl (by decide) mt_X12_lower (fun _ => rfl) (Nat.le_of_ble_eq_true rfl) (Nat.le_of_ble_eq_true rfl) (fun d' => c_X12_lower L xs m d' x6 ((S 170 x7.toInt.toNat) + (x2 * ((f_X12_hourOf x7 S) - x3))) S R) ?_
                      rintro _ _ _ ⟨_, rfl, rfl, rfl, rfl⟩
                      refine u_st rfl (fun _ => rfl) ?_
                      refine u_st rfl (fun _ => rfl) ?_
                      refine u_st rfl (fun _ => rfl) ?_
                      refine u_lc (b := [(0, .ref 100), (1, .int x1), (2, .int x2), (3, .int x3), (4, .int x4), (5, .int (f_X12_higher x5 ((S 169 x7.toInt.toNat) - (x2 * ((f_X12_hourOf x7 S) - x3))))), (6, .int (f_X12_lower x6 ((S 170 x7.toInt.toNat) + (x2 * ((f_X12_hourOf x7 S) - x3))))), (7, .int (x7 + (Int32.ofInt 1))), (8, .int (x2 * ((f_X12_hourOf x7 S) - x3)))]) (show ([7, 6, 5, 8, 0, 1, 2, 3, 4] : List Nat).Nodup by decide) (show ([0, 1, 2, 3, 4, 5, 6, 7, 8] : List Nat).Nodup by decide) (fun i => match i with | 0 => rfl | 1 => rfl | 2 => rfl | 3 => rfl | 4 => rfl | 5 => rfl | 6 => rfl | 7 => rfl | 8 => rfl | _ + 9 => rfl) ?_
                      exact (ih m hm).2.2 d (x2 * ((f_X12_hourOf x7 S) - x3)) x1 x2 x3 x4 (f_X12_higher x5 ((S 169 x7.toInt.toNat) - (x2 * ((f_X12_hourOf x7 S) - x3)))) (f_X12_lower x6 ((S 170 x7.toInt.toNat) + (x2 * ((f_X12_hourOf x7 S) - x3)))) (x7 + (Int32.ofInt 1)) S hD
              · have hD := hD.2 h24
                show u_P L xs m d m_X12_escaped 243 [(8, .int (x2 * ((f_X12_hourOf x7 S) - x3))), (0, .ref 100), (1, .int x1), (2, .int x2), (3, .int x3), (4, .int x4), (5, .int x5), (6, .int x6), (7, .int x7)] [] S R _
                refine u_st rfl (fun _ => rfl) ?_
                refine u_st rfl (fun _ => rfl) ?_
                show u_P L xs m d m_X12_escaped 246 [(8, .int (x2 * ((f_X12_hourOf x7 S) - x3))), (0, .ref 100), (1, .int x1), (2, .int x2), (3, .int x3), (4, .int x4), (5, .int x5), (6, .int x6), (7, .int x7)] [.ref 100, .int x5] S R _
                refine u_getr rfl v_tyM rfl ?_
                refine u_st rfl (fun _ => rfl) ?_
                show u_P L xs m d m_X12_escaped 251 [(8, .int (x2 * ((f_X12_hourOf x7 S) - x3))), (0, .ref 100), (1, .int x1), (2, .int x2), (3, .int x3), (4, .int x4), (5, .int x5), (6, .int x6), (7, .int x7)] [.int x7, .ref 168, .int x5] S R _
                refine u_ialdE (v := S 167 x7.toInt.toNat) rfl rfl rfl (fun b321 b322 => ?_)
                have hD := hD b321 b322
                show u_P L xs m d m_X12_escaped 252 [(8, .int (x2 * ((f_X12_hourOf x7 S) - x3))), (0, .ref 100), (1, .int x1), (2, .int x2), (3, .int x3), (4, .int x4), (5, .int x5), (6, .int x6), (7, .int x7)] [.int (S 167 x7.toInt.toNat), .int x5] S R _
                refine u_st rfl (fun _ => rfl) ?_
                refine u_st rfl (fun _ => rfl) ?_
                show u_P L xs m d m_X12_escaped 255 [(8, .int (x2 * ((f_X12_hourOf x7 S) - x3))), (0, .ref 100), (1, .int x1), (2, .int x2), (3, .int x3), (4, .int x4), (5, .int x5), (6, .int x6), (7, .int x7)] [.int ((S 167 x7.toInt.toNat) - (x2 * ((f_X12_hourOf x7 S) - x3))), .int x5] S R _
                refine u_cs (ac := [.int x5, .int ((S 167 x7.toInt.toNat) - (x2 * ((f_X12_hourOf x7 S) - x3)))]) (rest := []) rfl (by decide) mt_X12_higher (fun _ => rfl) (Nat.le_of_ble_eq_true rfl) (Nat.le_of_ble_eq_true rfl) (fun d' => c_X12_higher L xs m d' x5 ((S 167 x7.toInt.toNat) - (x2 * ((f_X12_hourOf x7 S) - x3))) S R) ?_
                rintro _ _ _ ⟨_, rfl, rfl, rfl, rfl⟩
                refine u_st rfl (fun _ => rfl) ?_
                refine u_st rfl (fun _ => rfl) ?_
                refine u_st rfl (fun _ => rfl) ?_
                show u_P L xs m d m_X12_escaped 263 [(5, .int (f_X12_higher x5 ((S 167 x7.toInt.toNat) - (x2 * ((f_X12_hourOf x7 S) - x3))))), (8, .int (x2 * ((f_X12_hourOf x7 S) - x3))), (0, .ref 100), (1, .int x1), (2, .int x2), (3, .int x3), (4, .int x4), (6, .int x6), (7, .int x7)] [.ref 100, .int x6] S R _
                refine u_getr rfl v_tyM rfl ?_
                refine u_st rfl (fun _ => rfl) ?_
                show u_P L xs m d m_X12_escaped 268 [(5, .int (f_X12_higher x5 ((S 167 x7.toInt.toNat) - (x2 * ((f_X12_hourOf x7 S) - x3))))), (8, .int (x2 * ((f_X12_hourOf x7 S) - x3))), (0, .ref 100), (1, .int x1), (2, .int x2), (3, .int x3), (4, .int x4), (6, .int x6), (7, .int x7)] [.int x7, .ref 169, .int x6] S R _
                refine u_ialdE (v := S 168 x7.toInt.toNat) rfl rfl rfl (fun b331 b332 => ?_)
                have hD := hD b331 b332
                show u_P L xs m d m_X12_escaped 269 [(5, .int (f_X12_higher x5 ((S 167 x7.toInt.toNat) - (x2 * ((f_X12_hourOf x7 S) - x3))))), (8, .int (x2 * ((f_X12_hourOf x7 S) - x3))), (0, .ref 100), (1, .int x1), (2, .int x2), (3, .int x3), (4, .int x4), (6, .int x6), (7, .int x7)] [.int (S 168 x7.toInt.toNat), .int x6] S R _
                refine u_st rfl (fun _ => rfl) ?_
                refine u_st rfl (fun _ => rfl) ?_
                show u_P L xs m d m_X12_escaped 272 [(5, .int (f_X12_higher x5 ((S 167 x7.toInt.toNat) - (x2 * ((f_X12_hourOf x7 S) - x3))))), (8, .int (x2 * ((f_X12_hourOf x7 S) - x3))), (0, .ref 100), (1, .int x1), (2, .int x2), (3, .int x3), (4, .int x4), (6, .int x6), (7, .int x7)] [.int ((S 168 x7.toInt.toNat) + (x2 * ((f_X12_hourOf x7 S) - x3))), .int x6] S R _
                refine u_cs (ac := [.int x6, .int ((S 168 x7.toInt.toNat) + (x2 * ((f_X12_hourOf x7 S) - x3)))]) (rest := []) rfl (by decide) mt_X12_lower (fun _ => rfl) (Nat.le_of_ble_eq_true rfl) (Nat.le_of_ble_eq_true rfl) (fun d' => c_X12_lower L xs m d' x6 ((S 168 x7.toInt.toNat) + (x2 * ((f_X12_hourOf x7 S) - x3))) S R) ?_
                rintro _ _ _ ⟨_, rfl, rfl, rfl, rfl⟩
                refine u_st rfl (fun _ => rfl) ?_
                refine u_st rfl (fun _ => rfl) ?_
                refine u_st rfl (fun _ => rfl) ?_
                show u_P L xs m d m_X12_escaped 280 [(6, .int (f_X12_lower x6 ((S 168 x7.toInt.toNat) + (x2 * ((f_X12_hourOf x7 S) - x3))))), (5, .int (f_X12_higher x5 ((S 167 x7.toInt.toNat) - (x2 * ((f_X12_hourOf x7 S) - x3))))), (8, .int (x2 * ((f_X12_hourOf x7 S) - x3))), (0, .ref 100), (1, .int x1), (2, .int x2), (3, .int x3), (4, .int x4), (7, .int x7)] [.int x7, .ref 100] S R _
                refine u_cv (rest := []) rfl (by decide) mt_X12_hourOf v_tyM rfl rfl rfl (Nat.le_of_ble_eq_true rfl) (Nat.le_of_ble_eq_true rfl) (Nat.le_of_ble_eq_true rfl) (fun d' => c_X12_hourOf L xs m d' x7 S R) ?_
                rintro _ _ _ ⟨_, rfl, rfl, rfl, rfl⟩
                refine u_st rfl (fun _ => rfl) ?_
                show u_P L xs m d m_X12_escaped 284 [(6, .int (f_X12_lower x6 ((S 168 x7.toInt.toNat) + (x2 * ((f_X12_hourOf x7 S) - x3))))), (5, .int (f_X12_higher x5 ((S 167 x7.toInt.toNat) - (x2 * ((f_X12_hourOf x7 S) - x3))))), (8, .int (x2 * ((f_X12_hourOf x7 S) - x3))), (0, .ref 100), (1, .int x1), (2, .int x2), (3, .int x3), (4, .int x4), (7, .int x7)] [.int x3, .int (f_X12_hourOf x7 S)] S R _
                refine u_ic_le rfl (fun h34 => ?_) (fun h34 => ?_)
                · have hD := hD.1 h34
                  show u_P L xs m d m_X12_escaped 338 [(6, .int (f_X12_lower x6 ((S 168 x7.toInt.toNat) + (x2 * ((f_X12_hourOf x7 S) - x3))))), (5, .int (f_X12_higher x5 ((S 167 x7.toInt.toNat) - (x2 * ((f_X12_hourOf x7 S) - x3))))), (8, .int (x2 * ((f_X12_hourOf x7 S) - x3))), (0, .ref 100), (1, .int x1), (2, .int x2), (3, .int x3), (4, .int x4), (7, .int x7)] [] S R _
                  refine u_st rfl (fun _ => rfl) ?_
                  refine u_st rfl (fun _ => rfl) ?_
                  refine u_lc (b := [(0, .ref 100), (1, .int x1), (2, .int x2), (3, .int x3), (4, .int x4), (5, .int (f_X12_higher x5 ((S 167 x7.toInt.toNat) - (x2 * ((f_X12_hourOf x7 S) - x3))))), (6, .int (f_X12_lower x6 ((S 168 x7.toInt.toNat) + (x2 * ((f_X12_hourOf x7 S) - x3))))), (7, .int (x7 + (Int32.ofInt 1))), (8, .int (x2 * ((f_X12_hourOf x7 S) - x3)))]) (show ([7, 6, 5, 8, 0, 1, 2, 3, 4] : List Nat).Nodup by decide) (show ([0, 1, 2, 3, 4, 5, 6, 7, 8] : List Nat).Nodup by decide) (fun i => match i with | 0 => rfl | 1 => rfl | 2 => rfl | 3 => rfl | 4 => rfl | 5 => rfl | 6 => rfl | 7 => rfl | 8 => rfl | _ + 9 => rfl) ?_
                  exact (ih m hm).2.2 d (x2 * ((f_X12_hourOf x7 S) - x3)) x1 x2 x3 x4 (f_X12_higher x5 ((S 167 x7.toInt.toNat) - (x2 * ((f_X12_hourOf x7 S) - x3)))) (f_X12_lower x6 ((S 168 x7.toInt.toNat) + (x2 * ((f_X12_hourOf x7 S) - x3)))) (x7 + (Int32.ofInt 1)) S hD
                · have hD := hD.2 h34
                  show u_P L xs m d m_X12_escaped 287 [(6, .int (f_X12_lower x6 ((S 168 x7.toInt.toNat) + (x2 * ((f_X12_hourOf x7 S) - x3))))), (5, .int (f_X12_higher x5 ((S 167 x7.toInt.toNat) - (x2 * ((f_X12_hourOf x7 S) - x3))))), (8, .int (x2 * ((f_X12_hourOf x7 S) - x3))), (0, .ref 100), (1, .int x1), (2, .int x2), (3, .int x3), (4, .int x4), (7, .int x7)] [] S R _
                  refine u_st rfl (fun _ => rfl) ?_
                  show u_P L xs m d m_X12_escaped 289 [(6, .int (f_X12_lower x6 ((S 168 x7.toInt.toNat) + (x2 * ((f_X12_hourOf x7 S) - x3))))), (5, .int (f_X12_higher x5 ((S 167 x7.toInt.toNat) - (x2 * ((f_X12_hourOf x7 S) - x3))))), (8, .int (x2 * ((f_X12_hourOf x7 S) - x3))), (0, .ref 100), (1, .int x1), (2, .int x2), (3, .int x3), (4, .int x4), (7, .int x7)] [.int x7] S R _
                  refine u_if_eq rfl (fun h35 => ?_) (fun h35 => ?_)
                  · have hD := hD.1 h35
                    show u_P L xs m d m_X12_escaped 304 [(6, .int (f_X12_lower x6 ((S 168 x7.toInt.toNat) + (x2 * ((f_X12_hourOf x7 S) - x3))))), (5, .int (f_X12_higher x5 ((S 167 x7.toInt.toNat) - (x2 * ((f_X12_hourOf x7 S) - x3))))), (8, .int (x2 * ((f_X12_hourOf x7 S) - x3))), (0, .ref 100), (1, .int x1), (2, .int x2), (3, .int x3), (4, .int x4), (7, .int x7)] [] S R _
                    refine u_st rfl (fun _ => rfl) ?_
                    refine u_st rfl (fun _ => rfl) ?_
                    show u_P L xs m d m_X12_escaped 307 [(6, .int (f_X12_lower x6 ((S 168 x7.toInt.toNat) + (x2 * ((f_X12_hourOf x7 S) - x3))))), (5, .int (f_X12_higher x5 ((S 167 x7.toInt.toNat) - (x2 * ((f_X12_hourOf x7 S) - x3))))), (8, .int (x2 * ((f_X12_hourOf x7 S) - x3))), (0, .ref 100), (1, .int x1), (2, .int x2), (3, .int x3), (4, .int x4), (7, .int x7)] [.ref 100, .int (f_X12_higher x5 ((S 167 x7.toInt.toNat) - (x2 * ((f_X12_hourOf x7 S) - x3))))] S R _
                    refine u_getr rfl v_tyM rfl ?_
                    refine u_st rfl (fun _ => rfl) ?_
                    show u_P L xs m d m_X12_escaped 312 [(6, .int (f_X12_lower x6 ((S 168 x7.toInt.toNat) + (x2 * ((f_X12_hourOf x7 S) - x3))))), (5, .int (f_X12_higher x5 ((S 167 x7.toInt.toNat) - (x2 * ((f_X12_hourOf x7 S) - x3))))), (8, .int (x2 * ((f_X12_hourOf x7 S) - x3))), (0, .ref 100), (1, .int x1), (2, .int x2), (3, .int x3), (4, .int x4), (7, .int x7)] [.int x7, .ref 170, .int (f_X12_higher x5 ((S 167 x7.toInt.toNat) - (x2 * ((f_X12_hourOf x7 S) - x3))))] S R _
                    refine u_ialdE (v := S 169 x7.toInt.toNat) rfl rfl rfl (fun b361 b362 => ?_)
                    have hD := hD b361 b362
                    show u_P L xs m d m_X12_escaped 313 [(6, .int (f_X12_lower x6 ((S 168 x7.toInt.toNat) + (x2 * ((f_X12_hourOf x7 S) - x3))))), (5, .int (f_X12_higher x5 ((S 167 x7.toInt.toNat) - (x2 * ((f_X12_hourOf x7 S) - x3))))), (8, .int (x2 * ((f_X12_hourOf x7 S) - x3))), (0, .ref 100), (1, .int x1), (2, .int x2), (3, .int x3), (4, .int x4), (7, .int x7)] [.int (S 169 x7.toInt.toNat), .int (f_X12_higher x5 ((S 167 x7.toInt.toNat) - (x2 * ((f_X12_hourOf x7 S) - x3))))] S R _
                    refine u_st rfl (fun _ => rfl) ?_
                    refine u_st rfl (fun _ => rfl) ?_
                    show u_P L xs m d m_X12_escaped 316 [(6, .int (f_X12_lower x6 ((S 168 x7.toInt.toNat) + (x2 * ((f_X12_hourOf x7 S) - x3))))), (5, .int (f_X12_higher x5 ((S 167 x7.toInt.toNat) - (x2 * ((f_X12_hourOf x7 S) - x3))))), (8, .int (x2 * ((f_X12_hourOf x7 S) - x3))), (0, .ref 100), (1, .int x1), (2, .int x2), (3, .int x3), (4, .int x4), (7, .int x7)] [.int ((S 169 x7.toInt.toNat) - (x2 * ((f_X12_hourOf x7 S) - x3))), .int (f_X12_higher x5 ((S 167 x7.toInt.toNat) - (x2 * ((f_X12_hourOf x7 S) - x3))))] S R _
                    refine u_cs (ac := [.int (f_X12_higher x5 ((S 167 x7.toInt.toNat) - (x2 * ((f_X12_hourOf x7 S) - x3)))), .int ((S 169 x7.toInt.toNat) - (x2 * ((f_X12_hourOf x7 S) - x3)))]) (rest := []) rfl (by decide) mt_X12_higher (fun _ => rfl) (Nat.le_of_ble_eq_true rfl) (Nat.le_of_ble_eq_true rfl) (fun d' => c_X12_higher L xs m d' (f_X12_higher x5 ((S 167 x7.toInt.toNat) - (x2 * ((f_X12_hourOf x7 S) - x3)))) ((S 169 x7.toInt.toNat) - (x2 * ((f_X12_hourOf x7 S) - x3))) S R) ?_
                    rintro _ _ _ ⟨_, rfl, rfl, rfl, rfl⟩
                    refine u_st rfl (fun _ => rfl) ?_
                    refine u_st rfl (fun _ => rfl) ?_
                    refine u_st rfl (fun _ => rfl) ?_
                    show u_P L xs m d m_X12_escaped 324 [(5, .int (f_X12_higher (f_X12_higher x5 ((S 167 x7.toInt.toNat) - (x2 * ((f_X12_hourOf x7 S) - x3)))) ((S 169 x7.toInt.toNat) - (x2 * ((f_X12_hourOf x7 S) - x3))))), (6, .int (f_X12_lower x6 ((S 168 x7.toInt.toNat) + (x2 * ((f_X12_hourOf x7 S) - x3))))), (8, .int (x2 * ((f_X12_hourOf x7 S) - x3))), (0, .ref 100), (1, .int x1), (2, .int x2), (3, .int x3), (4, .int x4), (7, .int x7)] [.ref 100, .int (f_X12_lower x6 ((S 168 x7.toInt.toNat) + (x2 * ((f_X12_hourOf x7 S) - x3))))] S R _
                    refine u_getr rfl v_tyM rfl ?_
                    refine u_st rfl (fun _ => rfl) ?_
                    show u_P L xs m d m_X12_escaped 329 [(5, .int (f_X12_higher (f_X12_higher x5 ((S 167 x7.toInt.toNat) - (x2 * ((f_X12_hourOf x7 S) - x3)))) ((S 169 x7.toInt.toNat) - (x2 * ((f_X12_hourOf x7 S) - x3))))), (6, .int (f_X12_lower x6 ((S 168 x7.toInt.toNat) + (x2 * ((f_X12_hourOf x7 S) - x3))))), (8, .int (x2 * ((f_X12_hourOf x7 S) - x3))), (0, .ref 100), (1, .int x1), (2, .int x2), (3, .int x3), (4, .int x4), (7, .int x7)] [.int x7, .ref 171, .int (f_X12_lower x6 ((S 168 x7.toInt.toNat) + (x2 * ((f_X12_hourOf x7 S) - x3))))] S R _
                    refine u_ialdE (v := S 170 x7.toInt.toNat) rfl rfl rfl (fun b371 b372 => ?_)
                    have hD := hD b371 b372
                    show u_P L xs m d m_X12_escaped 330 [(5, .int (f_X12_higher (f_X12_higher x5 ((S 167 x7.toInt.toNat) - (x2 * ((f_X12_hourOf x7 S) - x3)))) ((S 169 x7.toInt.toNat) - (x2 * ((f_X12_hourOf x7 S) - x3))))), (6, .int (f_X12_lower x6 ((S 168 x7.toInt.toNat) + (x2 * ((f_X12_hourOf x7 S) - x3))))), (8, .int (x2 * ((f_X12_hourOf x7 S) - x3))), (0, .ref 100), (1, .int x1), (2, .int x2), (3, .int x3), (4, .int x4), (7, .int x7)] [.int (S 170 x7.toInt.toNat), .int (f_X12_lower x6 ((S 168 x7.toInt.toNat) + (x2 * ((f_X12_hourOf x7 S) - x3))))] S R _
                    refine u_st rfl (fun _ => rfl) ?_
                    refine u_st rfl (fun _ => rfl) ?_
                    show u_P L xs m d m_X12_escaped 333 [(5, .int (f_X12_higher (f_X12_higher x5 ((S 167 x7.toInt.toNat) - (x2 * ((f_X12_hourOf x7 S) - x3)))) ((S 169 x7.toInt.toNat) - (x2 * ((f_X12_hourOf x7 S) - x3))))), (6, .int (f_X12_lower x6 ((S 168 x7.toInt.toNat) + (x2 * ((f_X12_hourOf x7 S) - x3))))), (8, .int (x2 * ((f_X12_hourOf x7 S) - x3))), (0, .ref 100), (1, .int x1), (2, .int x2), (3, .int x3), (4, .int x4), (7, .int x7)] [.int ((S 170 x7.toInt.toNat) + (x2 * ((f_X12_hourOf x7 S) - x3))), .int (f_X12_lower x6 ((S 168 x7.toInt.toNat) + (x2 * ((f_X12_hourOf x7 S) - x3))))] S R _
                    refine u_cs (ac := [.int (f_X12_lower x6 ((S 168 x7.toInt.toNat) + (x2 * ((f_X12_hourOf x7 S) - x3)))), .int ((S 170 x7.toInt.toNat) + (x2 * ((f_X12_hourOf x7 S) - x3)))]) (rest := []) rfl (by decide) mt_X12_lower (fun _ => rfl) (Nat.le_of_ble_eq_true rfl) (Nat.le_of_ble_eq_true rfl) (fun d' => c_X12_lower L xs m d' (f_X12_lower x6 ((S 168 x7.toInt.toNat) + (x2 * ((f_X12_hourOf x7 S) - x3)))) ((S 170 x7.toInt.toNat) + (x2 * ((f_X12_hourOf x7 S) - x3))) S R) ?_
                    rintro _ _ _ ⟨_, rfl, rfl, rfl, rfl⟩
                    refine u_st rfl (fun _ => rfl) ?_
                    refine u_st rfl (fun _ => rfl) ?_
                    refine u_st rfl (fun _ => rfl) ?_
                    refine u_lc (b := [(0, .ref 100), (1, .int x1), (2, .int x2), (3, .int x3), (4, .int x4), (5, .int (f_X12_higher (f_X12_higher x5 ((S 167 x7.toInt.toNat) - (x2 * ((f_X12_hourOf x7 S) - x3)))) ((S 169 x7.toInt.toNat) - (x2 * ((f_X12_hourOf x7 S) - x3))))), (6, .int (f_X12_lower (f_X12_lower x6 ((S 168 x7.toInt.toNat) + (x2 * ((f_X12_hourOf x7 S) - x3)))) ((S 170 x7.toInt.toNat) + (x2 * ((f_X12_hourOf x7 S) - x3))))), (7, .int (x7 + (Int32.ofInt 1))), (8, .int (x2 * ((f_X12_hourOf x7 S) - x3)))]) (show ([7, 6, 5, 8, 0, 1, 2, 3, 4] : List Nat).Nodup by decide) (show ([0, 1, 2, 3, 4, 5, 6, 7, 8] : List Nat).Nodup by decide) (fun i => match i with | 0 => rfl | 1 => rfl | 2 => rfl | 3 => rfl | 4 => rfl | 5 => rfl | 6 => rfl | 7 => rfl | 8 => rfl | _ + 9 => rfl) ?_
                    exact (ih m hm).2.2 d (x2 * ((f_X12_hourOf x7 S) - x3)) x1 x2 x3 x4 (f_X12_higher (f_X12_higher x5 ((S 167 x7.toInt.toNat) - (x2 * ((f_X12_hourOf x7 S) - x3)))) ((S 169 x7.toInt.toNat) - (x2 * ((f_X12_hourOf x7 S) - x3)))) (f_X12_lower (f_X12_lower x6 ((S 168 x7.toInt.toNat) + (x2 * ((f_X12_hourOf x7 S) - x3)))) ((S 170 x7.toInt.toNat) + (x2 * ((f_X12_hourOf x7 S) - x3)))) (x7 + (Int32.ofInt 1)) S hD
                  · have hD := hD.2 h35
                    show u_P L xs m d m_X12_escaped 292 [(6, .int (f_X12_lower x6 ((S 168 x7.toInt.toNat) + (x2 * ((f_X12_hourOf x7 S) - x3))))), (5, .int (f_X12_higher x5 ((S 167 x7.toInt.toNat) - (x2 * ((f_X12_hourOf x7 S) - x3))))), (8, .int (x2 * ((f_X12_hourOf x7 S) - x3))), (0, .ref 100), (1, .int x1), (2, .int x2), (3, .int x3), (4, .int x4), (7, .int x7)] [] S R _
                    refine u_st rfl (fun _ => rfl) ?_
                    refine u_st rfl (fun _ => rfl) ?_
                    refine u_st rfl (fun _ => rfl) ?_
                    refine u_st rfl (fun _ => rfl) ?_
                    show u_P L xs m d m_X12_escaped 297 [(6, .int (f_X12_lower x6 ((S 168 x7.toInt.toNat) + (x2 * ((f_X12_hourOf x7 S) - x3))))), (5, .int (f_X12_higher x5 ((S 167 x7.toInt.toNat) - (x2 * ((f_X12_hourOf x7 S) - x3))))), (8, .int (x2 * ((f_X12_hourOf x7 S) - x3))), (0, .ref 100), (1, .int x1), (2, .int x2), (3, .int x3), (4, .int x4), (7, .int x7)] [.int (x7 - (Int32.ofInt 1)), .ref 100] S R _
                    refine u_cv (rest := []) rfl (by decide) mt_X12_hourOf v_tyM rfl rfl rfl (Nat.le_of_ble_eq_true rfl) (Nat.le_of_ble_eq_true rfl) (Nat.le_of_ble_eq_true rfl) (fun d' => c_X12_hourOf L xs m d' (x7 - (Int32.ofInt 1)) S R) ?_
                    rintro _ _ _ ⟨_, rfl, rfl, rfl, rfl⟩
                    refine u_st rfl (fun _ => rfl) ?_
                    show u_P L xs m d m_X12_escaped 301 [(6, .int (f_X12_lower x6 ((S 168 x7.toInt.toNat) + (x2 * ((f_X12_hourOf x7 S) - x3))))), (5, .int (f_X12_higher x5 ((S 167 x7.toInt.toNat) - (x2 * ((f_X12_hourOf x7 S) - x3))))), (8, .int (x2 * ((f_X12_hourOf x7 S) - x3))), (0, .ref 100), (1, .int x1), (2, .int x2), (3, .int x3), (4, .int x4), (7, .int x7)] [.int x3, .int (f_X12_hourOf (x7 - (Int32.ofInt 1)) S)] S R _
                    refine u_ic_gt rfl (fun h38 => ?_) (fun h38 => ?_)
                    · have hD := hD.1 h38
                      show u_P L xs m d m_X12_escaped 338 [(6, .int (f_X12_lower x6 ((S 168 x7.toInt.toNat) + (x2 * ((f_X12_hourOf x7 S) - x3))))), (5, .int (f_X12_higher x5 ((S 167 x7.toInt.toNat) - (x2 * ((f_X12_hourOf x7 S) - x3))))), (8, .int (x2 * ((f_X12_hourOf x7 S) - x3))), (0, .ref 100), (1, .int x1), (2, .int x2), (3, .int x3), (4, .int x4), (7, .int x7)] [] S R _
                      refine u_st rfl (fun _ => rfl) ?_
                      refine u_st rfl (fun _ => rfl) ?_
                      refine u_lc (b := [(0, .ref 100), (1, .int x1), (2, .int x2), (3, .int x3), (4, .int x4), (5, .int (f_X12_higher x5 ((S 167 x7.toInt.toNat) - (x2 * ((f_X12_hourOf x7 S) - x3))))), (6, .int (f_X12_lower x6 ((S 168 x7.toInt.toNat) + (x2 * ((f_X12_hourOf x7 S) - x3))))), (7, .int (x7 + (Int32.ofInt 1))), (8, .int (x2 * ((f_X12_hourOf x7 S) - x3)))]) (show ([7, 6, 5, 8, 0, 1, 2, 3, 4] : List Nat).Nodup by decide) (show ([0, 1, 2, 3, 4, 5, 6, 7, 8] : List Nat).Nodup by decide) (fun i => match i with | 0 => rfl | 1 => rfl | 2 => rfl | 3 => rfl | 4 => rfl | 5 => rfl | 6 => rfl | 7 => rfl | 8 => rfl | _ + 9 => rfl) ?_
                      exact (ih m hm).2.2 d (x2 * ((f_X12_hourOf x7 S) - x3)) x1 x2 x3 x4 (f_X12_higher x5 ((S 167 x7.toInt.toNat) - (x2 * ((f_X12_hourOf x7 S) - x3)))) (f_X12_lower x6 ((S 168 x7.toInt.toNat) + (x2 * ((f_X12_hourOf x7 S) - x3)))) (x7 + (Int32.ofInt 1)) S hD
                    · have hD := hD.2 h38
                      show u_P L xs m d m_X12_escaped 304 [(6, .int (f_X12_lower x6 ((S 168 x7.toInt.toNat) + (x2 * ((f_X12_hourOf x7 S) - x3))))), (5, .int (f_X12_higher x5 ((S 167 x7.toInt.toNat) - (x2 * ((f_X12_hourOf x7 S) - x3))))), (8, .int (x2 * ((f_X12_hourOf x7 S) - x3))), (0, .ref 100), (1, .int x1), (2, .int x2), (3, .int x3), (4, .int x4), (7, .int x7)] [] S R _
                      refine u_st rfl (fun _ => rfl) ?_
                      refine u_st rfl (fun _ => rfl) ?_
                      show u_P L xs m d m_X12_escaped 307 [(6, .int (f_X12_lower x6 ((S 168 x7.toInt.toNat) + (x2 * ((f_X12_hourOf x7 S) - x3))))), (5, .int (f_X12_higher x5 ((S 167 x7.toInt.toNat) - (x2 * ((f_X12_hourOf x7 S) - x3))))), (8, .int (x2 * ((f_X12_hourOf x7 S) - x3))), (0, .ref 100), (1, .int x1), (2, .int x2), (3, .int x3), (4, .int x4), (7, .int x7)] [.ref 100, .int (f_X12_higher x5 ((S 167 x7.toInt.toNat) - (x2 * ((f_X12_hourOf x7 S) - x3))))] S R _
                      refine u_getr rfl v_tyM rfl ?_
                      refine u_st rfl (fun _ => rfl) ?_
                      show u_P L xs m d m_X12_escaped 312 [(6, .int (f_X12_lower x6 ((S 168 x7.toInt.toNat) + (x2 * ((f_X12_hourOf x7 S) - x3))))), (5, .int (f_X12_higher x5 ((S 167 x7.toInt.toNat) - (x2 * ((f_X12_hourOf x7 S) - x3))))), (8, .int (x2 * ((f_X12_hourOf x7 S) - x3))), (0, .ref 100), (1, .int x1), (2, .int x2), (3, .int x3), (4, .int x4), (7, .int x7)] [.int x7, .ref 170, .int (f_X12_higher x5 ((S 167 x7.toInt.toNat) - (x2 * ((f_X12_hourOf x7 S) - x3))))] S R _
                      refine u_ialdE (v := S 169 x7.toInt.toNat) rfl rfl rfl (fun b391 b392 => ?_)
                      have hD := hD b391 b392
                      show u_P L xs m d m_X12_escaped 313 [(6, .int (f_X12_lower x6 ((S 168 x7.toInt.toNat) + (x2 * ((f_X12_hourOf x7 S) - x3))))), (5, .int (f_X12_higher x5 ((S 167 x7.toInt.toNat) - (x2 * ((f_X12_hourOf x7 S) - x3))))), (8, .int (x2 * ((f_X12_hourOf x7 S) - x3))), (0, .ref 100), (1, .int x1), (2, .int x2), (3, .int x3), (4, .int x4), (7, .int x7)] [.int (S 169 x7.toInt.toNat), .int (f_X12_higher x5 ((S 167 x7.toInt.toNat) - (x2 * ((f_X12_hourOf x7 S) - x3))))] S R _
                      refine u_st rfl (fun _ => rfl) ?_
                      refine u_st rfl (fun _ => rfl) ?_
                      show u_P L xs m d m_X12_escaped 316 [(6, .int (f_X12_lower x6 ((S 168 x7.toInt.toNat) + (x2 * ((f_X12_hourOf x7 S) - x3))))), (5, .int (f_X12_higher x5 ((S 167 x7.toInt.toNat) - (x2 * ((f_X12_hourOf x7 S) - x3))))), (8, .int (x2 * ((f_X12_hourOf x7 S) - x3))), (0, .ref 100), (1, .int x1), (2, .int x2), (3, .int x3), (4, .int x4), (7, .int x7)] [.int ((S 169 x7.toInt.toNat) - (x2 * ((f_X12_hourOf x7 S) - x3))), .int (f_X12_higher x5 ((S 167 x7.toInt.toNat) - (x2 * ((f_X12_hourOf x7 S) - x3))))] S R _
                      refine u_cs (ac := [.int (f_X12_higher x5 ((S 167 x7.toInt.toNat) - (x2 * ((f_X12_hourOf x7 S) - x3)))), .int ((S 169 x7.toInt.toNat) - (x2 * ((f_X12_hourOf x7 S) - x3)))]) (rest := []) rfl (by decide) mt_X12_higher (fun _ => rfl) (Nat.le_of_ble_eq_true rfl) (Nat.le_of_ble_eq_true rfl) (fun d' => c_X12_higher L xs m d' (f_X12_higher x5 ((S 167 x7.toInt.toNat) - (x2 * ((f_X12_hourOf x7 S) - x3)))) ((S 169 x7.toInt.toNat) - (x2 * ((f_X12_hourOf x7 S) - x3))) S R) ?_
                      rintro _ _ _ ⟨_, rfl, rfl, rfl, rfl⟩
                      refine u_st rfl (fun _ => rfl) ?_
                      refine u_st rfl (fun _ => rfl) ?_
                      refine u_st rfl (fun _ => rfl) ?_
                      show u_P L xs m d m_X12_escaped 324 [(5, .int (f_X12_higher (f_X12_higher x5 ((S 167 x7.toInt.toNat) - (x2 * ((f_X12_hourOf x7 S) - x3)))) ((S 169 x7.toInt.toNat) - (x2 * ((f_X12_hourOf x7 S) - x3))))), (6, .int (f_X12_lower x6 ((S 168 x7.toInt.toNat) + (x2 * ((f_X12_hourOf x7 S) - x3))))), (8, .int (x2 * ((f_X12_hourOf x7 S) - x3))), (0, .ref 100), (1, .int x1), (2, .int x2), (3, .int x3), (4, .int x4), (7, .int x7)] [.ref 100, .int (f_X12_lower x6 ((S 168 x7.toInt.toNat) + (x2 * ((f_X12_hourOf x7 S) - x3))))] S R _
                      refine u_getr rfl v_tyM rfl ?_
                      refine u_st rfl (fun _ => rfl) ?_
                      show u_P L xs m d m_X12_escaped 329 [(5, .int (f_X12_higher (f_X12_higher x5 ((S 167 x7.toInt.toNat) - (x2 * ((f_X12_hourOf x7 S) - x3)))) ((S 169 x7.toInt.toNat) - (x2 * ((f_X12_hourOf x7 S) - x3))))), (6, .int (f_X12_lower x6 ((S 168 x7.toInt.toNat) + (x2 * ((f_X12_hourOf x7 S) - x3))))), (8, .int (x2 * ((f_X12_hourOf x7 S) - x3))), (0, .ref 100), (1, .int x1), (2, .int x2), (3, .int x3), (4, .int x4), (7, .int x7)] [.int x7, .ref 171, .int (f_X12_lower x6 ((S 168 x7.toInt.toNat) + (x2 * ((f_X12_hourOf x7 S) - x3))))] S R _
                      refine u_ialdE (v := S 170 x7.toInt.toNat) rfl rfl rfl (fun b401 b402 => ?_)
                      have hD := hD b401 b402
                      show u_P L xs m d m_X12_escaped 330 [(5, .int (f_X12_higher (f_X12_higher x5 ((S 167 x7.toInt.toNat) - (x2 * ((f_X12_hourOf x7 S) - x3)))) ((S 169 x7.toInt.toNat) - (x2 * ((f_X12_hourOf x7 S) - x3))))), (6, .int (f_X12_lower x6 ((S 168 x7.toInt.toNat) + (x2 * ((f_X12_hourOf x7 S) - x3))))), (8, .int (x2 * ((f_X12_hourOf x7 S) - x3))), (0, .ref 100), (1, .int x1), (2, .int x2), (3, .int x3), (4, .int x4), (7, .int x7)] [.int (S 170 x7.toInt.toNat), .int (f_X12_lower x6 ((S 168 x7.toInt.toNat) + (x2 * ((f_X12_hourOf x7 S) - x3))))] S R _
                      refine u_st rfl (fun _ => rfl) ?_
                      refine u_st rfl (fun _ => rfl) ?_
                      show u_P L xs m d m_X12_escaped 333 [(5, .int (f_X12_higher (f_X12_higher x5 ((S 167 x7.toInt.toNat) - (x2 * ((f_X12_hourOf x7 S) - x3)))) ((S 169 x7.toInt.toNat) - (x2 * ((f_X12_hourOf x7 S) - x3))))), (6, .int (f_X12_lower x6 ((S 168 x7.toInt.toNat) + (x2 * ((f_X12_hourOf x7 S) - x3))))), (8, .int (x2 * ((f_X12_hourOf x7 S) - x3))), (0, .ref 100), (1, .int x1), (2, .int x2), (3, .int x3), (4, .int x4), (7, .int x7)] [.int ((S 170 x7.toInt.toNat) + (x2 * ((f_X12_hourOf x7 S) - x3))), .int (f_X12_lower x6 ((S 168 x7.toInt.toNat) + (x2 * ((f_X12_hourOf x7 S) - x3))))] S R _
                      refine u_cs (ac := [.int (f_X12_lower x6 ((S 168 x7.toInt.toNat) + (x2 * ((f_X12_hourOf x7 S) - x3)))), .int ((S 170 x7.toInt.toNat) + (x2 * ((f_X12_hourOf x7 S) - x3)))]) (rest := []) rfl (by decide) mt_X12_lower (fun _ => rfl) (Nat.le_of_ble_eq_true rfl) (Nat.le_of_ble_eq_true rfl) (fun d' => c_X12_lower L xs m d' (f_X12_lower x6 ((S 168 x7.toInt.toNat) + (x2 * ((f_X12_hourOf x7 S) - x3)))) ((S 170 x7.toInt.toNat) + (x2 * ((f_X12_hourOf x7 S) - x3))) S R) ?_
                      rintro _ _ _ ⟨_, rfl, rfl, rfl, rfl⟩
                      refine u_st rfl (fun _ => rfl) ?_
                      refine u_st rfl (fun _ => rfl) ?_
                      refine u_st rfl (fun _ => rfl) ?_
                      refine u_lc (b := [(0, .ref 100), (1, .int x1), (2, .int x2), (3, .int x3), (4, .int x4), (5, .int (f_X12_higher (f_X12_higher x5 ((S 167 x7.toInt.toNat) - (x2 * ((f_X12_hourOf x7 S) - x3)))) ((S 169 x7.toInt.toNat) - (x2 * ((f_X12_hourOf x7 S) - x3))))), (6, .int (f_X12_lower (f_X12_lower x6 ((S 168 x7.toInt.toNat) + (x2 * ((f_X12_hourOf x7 S) - x3)))) ((S 170 x7.toInt.toNat) + (x2 * ((f_X12_hourOf x7 S) - x3))))), (7, .int (x7 + (Int32.ofInt 1))), (8, .int (x2 * ((f_X12_hourOf x7 S) - x3)))]) (show ([7, 6, 5, 8, 0, 1, 2, 3, 4] : List Nat).Nodup by decide) (show ([0, 1, 2, 3, 4, 5, 6, 7, 8] : List Nat).Nodup by decide) (fun i => match i with | 0 => rfl | 1 => rfl | 2 => rfl | 3 => rfl | 4 => rfl | 5 => rfl | 6 => rfl | 7 => rfl | 8 => rfl | _ + 9 => rfl) ?_
                      exact (ih m hm).2.2 d (x2 * ((f_X12_hourOf x7 S) - x3)) x1 x2 x3 x4 (f_X12_higher (f_X12_higher x5 ((S 167 x7.toInt.toNat) - (x2 * ((f_X12_hourOf x7 S) - x3)))) ((S 169 x7.toInt.toNat) - (x2 * ((f_X12_hourOf x7 S) - x3)))) (f_X12_lower (f_X12_lower x6 ((S 168 x7.toInt.toNat) + (x2 * ((f_X12_hourOf x7 S) - x3)))) ((S 170 x7.toInt.toNat) + (x2 * ((f_X12_hourOf x7 S) - x3)))) (x7 + (Int32.ofInt 1)) S hD
        · have hD := hD.2 h5
          show u_P L xs m d m_X12_escaped 191 [(0, .ref 100), (1, .int x1), (2, .int x2), (3, .int x3), (4, .int x4), (5, .int x5), (6, .int x6), (7, .int x7), (8, .int j8)] [.int x2] S R _
          refine u_st rfl (fun _ => rfl) ?_
          refine u_st rfl (fun _ => rfl) ?_
          refine u_st rfl (fun _ => rfl) ?_
          show u_P L xs m d m_X12_escaped 195 [(0, .ref 100), (1, .int x1), (2, .int x2), (3, .int x3), (4, .int x4), (5, .int x5), (6, .int x6), (7, .int x7), (8, .int j8)] [.int x7, .ref 100, .int x3, .int x2] S R _
          refine u_cv (rest := [.int x3, .int x2]) rfl (by decide) mt_X12_hourOf v_tyM rfl rfl rfl (Nat.le_of_ble_eq_true rfl) (Nat.le_of_ble_eq_true rfl) (Nat.le_of_ble_eq_true rfl) (fun d' => c_X12_hourOf L xs m d' x7 S R) ?_
          rintro _ _ _ ⟨_, rfl, rfl, rfl, rfl⟩
          refine u_st rfl (fun _ => rfl) ?_
          refine u_st rfl (fun _ => rfl) ?_
          refine u_st rfl (fun _ => rfl) ?_
          refine u_st rfl (fun _ => rfl) ?_
          refine u_st rfl (fun _ => rfl) ?_
          refine u_st rfl (fun _ => rfl) ?_
          show u_P L xs m d m_X12_escaped 216 [(8, .int (x2 * (x3 - (f_X12_hourOf x7 S)))), (0, .ref 100), (1, .int x1), (2, .int x2), (3, .int x3), (4, .int x4), (5, .int x5), (6, .int x6), (7, .int x7)] [.int x7, .ref 100] S R _
          refine u_cv (rest := []) rfl (by decide) mt_X12_hourOf v_tyM rfl rfl rfl (Nat.le_of_ble_eq_true rfl) (Nat.le_of_ble_eq_true rfl) (Nat.le_of_ble_eq_true rfl) (fun d' => c_X12_hourOf L xs m d' x7 S R) ?_
          rintro _ _ _ ⟨_, rfl, rfl, rfl, rfl⟩
          refine u_st rfl (fun _ => rfl) ?_
          show u_P L xs m d m_X12_escaped 220 [(8, .int (x2 * (x3 - (f_X12_hourOf x7 S)))), (0, .ref 100), (1, .int x1), (2, .int x2), (3, .int x3), (4, .int x4), (5, .int x5), (6, .int x6), (7, .int x7)] [.int x3, .int (f_X12_hourOf x7 S)] S R _
          refine u_ic_gt rfl (fun h41 => ?_) (fun h41 => ?_)
          · have hD := hD.1 h41
            show u_P L xs m d m_X12_escaped 277 [(8, .int (x2 * (x3 - (f_X12_hourOf x7 S)))), (0, .ref 100), (1, .int x1), (2, .int x2), (3, .int x3), (4, .int x4), (5, .int x5), (6, .int x6), (7, .int x7)] [] S R _
            refine u_st rfl (fun _ => rfl) ?_
            refine u_st rfl (fun _ => rfl) ?_
            show u_P L xs m d m_X12_escaped 280 [(8, .int (x2 * (x3 - (f_X12_hourOf x7 S)))), (0, .ref 100), (1, .int x1), (2, .int x2), (3, .int x3), (4, .int x4), (5, .int x5), (6, .int x6), (7, .int x7)] [.int x7, .ref 100] S R _
            refine u_cv (rest := []) rfl (by decide) mt_X12_hourOf v_tyM rfl rfl rfl (Nat.le_of_ble_eq_true rfl) (Nat.le_of_ble_eq_true rfl) (Nat.le_of_ble_eq_true rfl) (fun d' => c_X12_hourOf L xs m d' x7 S R) ?_
            rintro _ _ _ ⟨_, rfl, rfl, rfl, rfl⟩
            refine u_st rfl (fun _ => rfl) ?_
            show u_P L xs m d m_X12_escaped 284 [(8, .int (x2 * (x3 - (f_X12_hourOf x7 S)))), (0, .ref 100), (1, .int x1), (2, .int x2), (3, .int x3), (4, .int x4), (5, .int x5), (6, .int x6), (7, .int x7)] [.int x3, .int (f_X12_hourOf x7 S)] S R _
            refine u_ic_le rfl (fun h42 => ?_) (fun h42 => ?_)
            · have hD := hD.1 h42
              show u_P L xs m d m_X12_escaped 338 [(8, .int (x2 * (x3 - (f_X12_hourOf x7 S)))), (0, .ref 100), (1, .int x1), (2, .int x2), (3, .int x3), (4, .int x4), (5, .int x5), (6, .int x6), (7, .int x7)] [] S R _
              refine u_st rfl (fun _ => rfl) ?_
              refine u_st rfl (fun _ => rfl) ?_
              refine u_lc (b := [(0, .ref 100), (1, .int x1), (2, .int x2), (3, .int x3), (4, .int x4), (5, .int x5), (6, .int x6), (7, .int (x7 + (Int32.ofInt 1))), (8, .int (x2 * (x3 - (f_X12_hourOf x7 S))))]) (show ([7, 8, 0, 1, 2, 3, 4, 5, 6] : List Nat).Nodup by decide) (show ([0, 1, 2, 3, 4, 5, 6, 7, 8] : List Nat).Nodup by decide) (fun i => match i with | 0 => rfl | 1 => rfl | 2 => rfl | 3 => rfl | 4 => rfl | 5 => rfl | 6 => rfl | 7 => rfl | 8 => rfl | _ + 9 => rfl) ?_
              exact (ih m hm).2.2 d (x2 * (x3 - (f_X12_hourOf x7 S))) x1 x2 x3 x4 x5 x6 (x7 + (Int32.ofInt 1)) S hD
            · have hD := hD.2 h42
              show u_P L xs m d m_X12_escaped 287 [(8, .int (x2 * (x3 - (f_X12_hourOf x7 S)))), (0, .ref 100), (1, .int x1), (2, .int x2), (3, .int x3), (4, .int x4), (5, .int x5), (6, .int x6), (7, .int x7)] [] S R _
              refine u_st rfl (fun _ => rfl) ?_
              show u_P L xs m d m_X12_escaped 289 [(8, .int (x2 * (x3 - (f_X12_hourOf x7 S)))), (0, .ref 100), (1, .int x1), (2, .int x2), (3, .int x3), (4, .int x4), (5, .int x5), (6, .int x6), (7, .int x7)] [.int x7] S R _
              refine u_if_eq rfl (fun h43 => ?_) (fun h43 => ?_)
              · have hD := hD.1 h43
                show u_P L xs m d m_X12_escaped 304 [(8, .int (x2 * (x3 - (f_X12_hourOf x7 S)))), (0, .ref 100), (1, .int x1), (2, .int x2), (3, .int x3), (4, .int x4), (5, .int x5), (6, .int x6), (7, .int x7)] [] S R _
                refine u_st rfl (fun _ => rfl) ?_
                refine u_st rfl (fun _ => rfl) ?_
                show u_P L xs m d m_X12_escaped 307 [(8, .int (x2 * (x3 - (f_X12_hourOf x7 S)))), (0, .ref 100), (1, .int x1), (2, .int x2), (3, .int x3), (4, .int x4), (5, .int x5), (6, .int x6), (7, .int x7)] [.ref 100, .int x5] S R _
                refine u_getr rfl v_tyM rfl ?_
                refine u_st rfl (fun _ => rfl) ?_
                show u_P L xs m d m_X12_escaped 312 [(8, .int (x2 * (x3 - (f_X12_hourOf x7 S)))), (0, .ref 100), (1, .int x1), (2, .int x2), (3, .int x3), (4, .int x4), (5, .int x5), (6, .int x6), (7, .int x7)] [.int x7, .ref 170, .int x5] S R _
                refine u_ialdE (v := S 169 x7.toInt.toNat) rfl rfl rfl (fun b441 b442 => ?_)
                have hD := hD b441 b442
                show u_P L xs m d m_X12_escaped 313 [(8, .int (x2 * (x3 - (f_X12_hourOf x7 S)))), (0, .ref 100), (1, .int x1), (2, .int x2), (3, .int x3), (4, .int x4), (5, .int x5), (6, .int x6), (7, .int x7)] [.int (S 169 x7.toInt.toNat), .int x5] S R _
                refine u_st rfl (fun _ => rfl) ?_
                refine u_st rfl (fun _ => rfl) ?_
                show u_P L xs m d m_X12_escaped 316 [(8, .int (x2 * (x3 - (f_X12_hourOf x7 S)))), (0, .ref 100), (1, .int x1), (2, .int x2), (3, .int x3), (4, .int x4), (5, .int x5), (6, .int x6), (7, .int x7)] [.int ((S 169 x7.toInt.toNat) - (x2 * (x3 - (f_X12_hourOf x7 S)))), .int x5] S R _
                refine u_cs (ac := [.int x5, .int ((S 169 x7.toInt.toNat) - (x2 * (x3 - (f_X12_hourOf x7 S))))]) (rest := []) rfl (by decide) mt_X12_higher (fun _ => rfl) (Nat.le_of_ble_eq_true rfl) (Nat.le_of_ble_eq_true rfl) (fun d' => c_X12_higher L xs m d' x5 ((S 169 x7.toInt.toNat) - (x2 * (x3 - (f_X12_hourOf x7 S)))) S R) ?_
                rintro _ _ _ ⟨_, rfl, rfl, rfl, rfl⟩
                refine u_st rfl (fun _ => rfl) ?_
                refine u_st rfl (fun _ => rfl) ?_
                refine u_st rfl (fun _ => rfl) ?_
                show u_P L xs m d m_X12_escaped 324 [(5, .int (f_X12_higher x5 ((S 169 x7.toInt.toNat) - (x2 * (x3 - (f_X12_hourOf x7 S)))))), (8, .int (x2 * (x3 - (f_X12_hourOf x7 S)))), (0, .ref 100), (1, .int x1), (2, .int x2), (3, .int x3), (4, .int x4), (6, .int x6), (7, .int x7)] [.ref 100, .int x6] S R _
                refine u_getr rfl v_tyM rfl ?_
                refine u_st rfl (fun _ => rfl) ?_
                show u_P L xs m d m_X12_escaped 329 [(5, .int (f_X12_higher x5 ((S 169 x7.toInt.toNat) - (x2 * (x3 - (f_X12_hourOf x7 S)))))), (8, .int (x2 * (x3 - (f_X12_hourOf x7 S)))), (0, .ref 100), (1, .int x1), (2, .int x2), (3, .int x3), (4, .int x4), (6, .int x6), (7, .int x7)] [.int x7, .ref 171, .int x6] S R _
                refine u_ialdE (v := S 170 x7.toInt.toNat) rfl rfl rfl (fun b451 b452 => ?_)
                have hD := hD b451 b452
                show u_P L xs m d m_X12_escaped 330 [(5, .int (f_X12_higher x5 ((S 169 x7.toInt.toNat) - (x2 * (x3 - (f_X12_hourOf x7 S)))))), (8, .int (x2 * (x3 - (f_X12_hourOf x7 S)))), (0, .ref 100), (1, .int x1), (2, .int x2), (3, .int x3), (4, .int x4), (6, .int x6), (7, .int x7)] [.int (S 170 x7.toInt.toNat), .int x6] S R _
                refine u_st rfl (fun _ => rfl) ?_
                refine u_st rfl (fun _ => rfl) ?_
                show u_P L xs m d m_X12_escaped 333 [(5, .int (f_X12_higher x5 ((S 169 x7.toInt.toNat) - (x2 * (x3 - (f_X12_hourOf x7 S)))))), (8, .int (x2 * (x3 - (f_X12_hourOf x7 S)))), (0, .ref 100), (1, .int x1), (2, .int x2), (3, .int x3), (4, .int x4), (6, .int x6), (7, .int x7)] [.int ((S 170 x7.toInt.toNat) + (x2 * (x3 - (f_X12_hourOf x7 S)))), .int x6] S R _
                refine u_cs (ac := [.int x6, .int ((S 170 x7.toInt.toNat) + (x2 * (x3 - (f_X12_hourOf x7 S))))]) (rest := []) rfl (by decide) mt_X12_lower (fun _ => rfl) (Nat.le_of_ble_eq_true rfl) (Nat.le_of_ble_eq_true rfl) (fun d' => c_X12_lower L xs m d' x6 ((S 170 x7.toInt.toNat) + (x2 * (x3 - (f_X12_hourOf x7 S)))) S R) ?_
                rintro _ _ _ ⟨_, rfl, rfl, rfl, rfl⟩
                refine u_st rfl (fun _ => rfl) ?_
                refine u_st rfl (fun _ => rfl) ?_
                refine u_st rfl (fun _ => rfl) ?_
                refine u_lc (b := [(0, .ref 100), (1, .int x1), (2, .int x2), (3, .int x3), (4, .int x4), (5, .int (f_X12_higher x5 ((S 169 x7.toInt.toNat) - (x2 * (x3 - (f_X12_hourOf x7 S)))))), (6, .int (f_X12_lower x6 ((S 170 x7.toInt.toNat) + (x2 * (x3 - (f_X12_hourOf x7 S)))))), (7, .int (x7 + (Int32.ofInt 1))), (8, .int (x2 * (x3 - (f_X12_hourOf x7 S))))]) (show ([7, 6, 5, 8, 0, 1, 2, 3, 4] : List Nat).Nodup by decide) (show ([0, 1, 2, 3, 4, 5, 6, 7, 8] : List Nat).Nodup by decide) (fun i => match i with | 0 => rfl | 1 => rfl | 2 => rfl | 3 => rfl | 4 => rfl | 5 => rfl | 6 => rfl | 7 => rfl | 8 => rfl | _ + 9 => rfl) ?_
                exact (ih m hm).2.2 d (x2 * (x3 - (f_X12_hourOf x7 S))) x1 x2 x3 x4 (f_X12_higher x5 ((S 169 x7.toInt.toNat) - (x2 * (x3 - (f_X12_hourOf x7 S))))) (f_X12_lower x6 ((S 170 x7.toInt.toNat) + (x2 * (x3 - (f_X12_hourOf x7 S))))) (x7 + (Int32.ofInt 1)) S hD
              · have hD := hD.2 h43
                show u_P L xs m d m_X12_escaped 292 [(8, .int (x2 * (x3 - (f_X12_hourOf x7 S)))), (0, .ref 100), (1, .int x1), (2, .int x2), (3, .int x3), (4, .int x4), (5, .int x5), (6, .int x6), (7, .int x7)] [] S R _
                refine u_st rfl (fun _ => rfl) ?_
                refine u_st rfl (fun _ => rfl) ?_
                refine u_st rfl (fun _ => rfl) ?_
                refine u_st rfl (fun _ => rfl) ?_
                show u_P L xs m d m_X12_escaped 297 [(8, .int (x2 * (x3 - (f_X12_hourOf x7 S)))), (0, .ref 100), (1, .int x1), (2, .int x2), (3, .int x3), (4, .int x4), (5, .int x5), (6, .int x6), (7, .int x7)] [.int (x7 - (Int32.ofInt 1)), .ref 100] S R _
                refine u_cv (rest := []) rfl (by decide) mt_X12_hourOf v_tyM rfl rfl rfl (Nat.le_of_ble_eq_true rfl) (Nat.le_of_ble_eq_true rfl) (Nat.le_of_ble_eq_true rfl) (fun d' => c_X12_hourOf L xs m d' (x7 - (Int32.ofInt 1)) S R) ?_
                rintro _ _ _ ⟨_, rfl, rfl, rfl, rfl⟩
                refine u_st rfl (fun _ => rfl) ?_
                show u_P L xs m d m_X12_escaped 301 [(8, .int (x2 * (x3 - (f_X12_hourOf x7 S)))), (0, .ref 100), (1, .int x1), (2, .int x2), (3, .int x3), (4, .int x4), (5, .int x5), (6, .int x6), (7, .int x7)] [.int x3, .int (f_X12_hourOf (x7 - (Int32.ofInt 1)) S)] S R _
                refine u_ic_gt rfl (fun h46 => ?_) (fun h46 => ?_)
                · have hD := hD.1 h46
                  show u_P L xs m d m_X12_escaped 338 [(8, .int (x2 * (x3 - (f_X12_hourOf x7 S)))), (0, .ref 100), (1, .int x1), (2, .int x2), (3, .int x3), (4, .int x4), (5, .int x5), (6, .int x6), (7, .int x7)] [] S R _
                  refine u_st rfl (fun _ => rfl) ?_
                  refine u_st rfl (fun _ => rfl) ?_
                  refine u_lc (b := [(0, .ref 100), (1, .int x1), (2, .int x2), (3, .int x3), (4, .int x4), (5, .int x5), (6, .int x6), (7, .int (x7 + (Int32.ofInt 1))), (8, .int (x2 * (x3 - (f_X12_hourOf x7 S))))]) (show ([7, 8, 0, 1, 2, 3, 4, 5, 6] : List Nat).Nodup by decide) (show ([0, 1, 2, 3, 4, 5, 6, 7, 8] : List Nat).Nodup by decide) (fun i => match i with | 0 => rfl | 1 => rfl | 2 => rfl | 3 => rfl | 4 => rfl | 5 => rfl | 6 => rfl | 7 => rfl | 8 => rfl | _ + 9 => rfl) ?_
                  exact (ih m hm).2.2 d (x2 * (x3 - (f_X12_hourOf x7 S))) x1 x2 x3 x4 x5 x6 (x7 + (Int32.ofInt 1)) S hD
                · have hD := hD.2 h46
                  show u_P L xs m d m_X12_escaped 304 [(8, .int (x2 * (x3 - (f_X12_hourOf x7 S)))), (0, .ref 100), (1, .int x1), (2, .int x2), (3, .int x3), (4, .int x4), (5, .int x5), (6, .int x6), (7, .int x7)] [] S R _
                  refine u_st rfl (fun _ => rfl) ?_
                  refine u_st rfl (fun _ => rfl) ?_
                  show u_P L xs m d m_X12_escaped 307 [(8, .int (x2 * (x3 - (f_X12_hourOf x7 S)))), (0, .ref 100), (1, .int x1), (2, .int x2), (3, .int x3), (4, .int x4), (5, .int x5), (6, .int x6), (7, .int x7)] [.ref 100, .int x5] S R _
                  refine u_getr rfl v_tyM rfl ?_
                  refine u_st rfl (fun _ => rfl) ?_
                  show u_P L xs m d m_X12_escaped 312 [(8, .int (x2 * (x3 - (f_X12_hourOf x7 S)))), (0, .ref 100), (1, .int x1), (2, .int x2), (3, .int x3), (4, .int x4), (5, .int x5), (6, .int x6), (7, .int x7)] [.int x7, .ref 170, .int x5] S R _
                  refine u_ialdE (v := S 169 x7.toInt.toNat) rfl rfl rfl (fun b471 b472 => ?_)
                  have hD := hD b471 b472
                  show u_P L xs m d m_X12_escaped 313 [(8, .int (x2 * (x3 - (f_X12_hourOf x7 S)))), (0, .ref 100), (1, .int x1), (2, .int x2), (3, .int x3), (4, .int x4), (5, .int x5), (6, .int x6), (7, .int x7)] [.int (S 169 x7.toInt.toNat), .int x5] S R _
                  refine u_st rfl (fun _ => rfl) ?_
                  refine u_st rfl (fun _ => rfl) ?_
                  show u_P L xs m d m_X12_escaped 316 [(8, .int (x2 * (x3 - (f_X12_hourOf x7 S)))), (0, .ref 100), (1, .int x1), (2, .int x2), (3, .int x3), (4, .int x4), (5, .int x5), (6, .int x6), (7, .int x7)] [.int ((S 169 x7.toInt.toNat) - (x2 * (x3 - (f_X12_hourOf x7 S)))), .int x5] S R _
                  refine u_cs (ac := [.int x5, .int ((S 169 x7.toInt.toNat) - (x2 * (x3 - (f_X12_hourOf x7 S))))]) (rest := []) rfl (by decide) mt_X12_higher (fun _ => rfl) (Nat.le_of_ble_eq_true rfl) (Nat.le_of_ble_eq_true rfl) (fun d' => c_X12_higher L xs m d' x5 ((S 169 x7.toInt.toNat) - (x2 * (x3 - (f_X12_hourOf x7 S)))) S R) ?_
                  rintro _ _ _ ⟨_, rfl, rfl, rfl, rfl⟩
                  refine u_st rfl (fun _ => rfl) ?_
                  refine u_st rfl (fun _ => rfl) ?_
                  refine u_st rfl (fun _ => rfl) ?_
                  show u_P L xs m d m_X12_escaped 324 [(5, .int (f_X12_higher x5 ((S 169 x7.toInt.toNat) - (x2 * (x3 - (f_X12_hourOf x7 S)))))), (8, .int (x2 * (x3 - (f_X12_hourOf x7 S)))), (0, .ref 100), (1, .int x1), (2, .int x2), (3, .int x3), (4, .int x4), (6, .int x6), (7, .int x7)] [.ref 100, .int x6] S R _
                  refine u_getr rfl v_tyM rfl ?_
                  refine u_st rfl (fun _ => rfl) ?_
                  show u_P L xs m d m_X12_escaped 329 [(5, .int (f_X12_higher x5 ((S 169 x7.toInt.toNat) - (x2 * (x3 - (f_X12_hourOf x7 S)))))), (8, .int (x2 * (x3 - (f_X12_hourOf x7 S)))), (0, .ref 100), (1, .int x1), (2, .int x2), (3, .int x3), (4, .int x4), (6, .int x6), (7, .int x7)] [.int x7, .ref 171, .int x6] S R _
                  refine u_ialdE (v := S 170 x7.toInt.toNat) rfl rfl rfl (fun b481 b482 => ?_)
                  have hD := hD b481 b482
                  show u_P L xs m d m_X12_escaped 330 [(5, .int (f_X12_higher x5 ((S 169 x7.toInt.toNat) - (x2 * (x3 - (f_X12_hourOf x7 S)))))), (8, .int (x2 * (x3 - (f_X12_hourOf x7 S)))), (0, .ref 100), (1, .int x1), (2, .int x2), (3, .int x3), (4, .int x4), (6, .int x6), (7, .int x7)] [.int (S 170 x7.toInt.toNat), .int x6] S R _
                  refine u_st rfl (fun _ => rfl) ?_
                  refine u_st rfl (fun _ => rfl) ?_
                  show u_P L xs m d m_X12_escaped 333 [(5, .int (f_X12_higher x5 ((S 169 x7.toInt.toNat) - (x2 * (x3 - (f_X12_hourOf x7 S)))))), (8, .int (x2 * (x3 - (f_X12_hourOf x7 S)))), (0, .ref 100), (1, .int x1), (2, .int x2), (3, .int x3), (4, .int x4), (6, .int x6), (7, .int x7)] [.int ((S 170 x7.toInt.toNat) + (x2 * (x3 - (f_X12_hourOf x7 S)))), .int x6] S R _
                  refine u_cs (ac := [.int x6, .int ((S 170 x7.toInt.toNat) + (x2 * (x3 - (f_X12_hourOf x7 S))))]) (rest := []) rfl (by decide) mt_X12_lower (fun _ => rfl) (Nat.le_of_ble_eq_true rfl) (Nat.le_of_ble_eq_true rfl) (fun d' => c_X12_lower L xs m d' x6 ((S 170 x7.toInt.toNat) + (x2 * (x3 - (f_X12_hourOf x7 S)))) S R) ?_
                  rintro _ _ _ ⟨_, rfl, rfl, rfl, rfl⟩
                  refine u_st rfl (fun _ => rfl) ?_
                  refine u_st rfl (fun _ => rfl) ?_
                  refine u_st rfl (fun _ => rfl) ?_
                  refine u_lc (b := [(0, .ref 100), (1, .int x1), (2, .int x2), (3, .int x3), (4, .int x4), (5, .int (f_X12_higher x5 ((S 169 x7.toInt.toNat) - (x2 * (x3 - (f_X12_hourOf x7 S)))))), (6, .int (f_X12_lower x6 ((S 170 x7.toInt.toNat) + (x2 * (x3 - (f_X12_hourOf x7 S)))))), (7, .int (x7 + (Int32.ofInt 1))), (8, .int (x2 * (x3 - (f_X12_hourOf x7 S))))]) (show ([7, 6, 5, 8, 0, 1, 2, 3, 4] : List Nat).Nodup by decide) (show ([0, 1, 2, 3, 4, 5, 6, 7, 8] : List Nat).Nodup by decide) (fun i => match i with | 0 => rfl | 1 => rfl | 2 => rfl | 3 => rfl | 4 => rfl | 5 => rfl | 6 => rfl | 7 => rfl | 8 => rfl | _ + 9 => rfl) ?_
                  exact (ih m hm).2.2 d (x2 * (x3 - (f_X12_hourOf x7 S))) x1 x2 x3 x4 (f_X12_higher x5 ((S 169 x7.toInt.toNat) - (x2 * (x3 - (f_X12_hourOf x7 S))))) (f_X12_lower x6 ((S 170 x7.toInt.toNat) + (x2 * (x3 - (f_X12_hourOf x7 S))))) (x7 + (Int32.ofInt 1)) S hD
          · have hD := hD.2 h41
            show u_P L xs m d m_X12_escaped 223 [(8, .int (x2 * (x3 - (f_X12_hourOf x7 S)))), (0, .ref 100), (1, .int x1), (2, .int x2), (3, .int x3), (4, .int x4), (5, .int x5), (6, .int x6), (7, .int x7)] [] S R _
            refine u_st rfl (fun _ => rfl) ?_
            refine u_st rfl (fun _ => rfl) ?_
            refine u_st rfl (fun _ => rfl) ?_
            refine u_st rfl (fun _ => rfl) ?_
            show u_P L xs m d m_X12_escaped 228 [(8, .int (x2 * (x3 - (f_X12_hourOf x7 S)))), (0, .ref 100), (1, .int x1), (2, .int x2), (3, .int x3), (4, .int x4), (5, .int x5), (6, .int x6), (7, .int x7)] [.int x1, .int (x7 + (Int32.ofInt 1))] S R _
            refine u_ic_eq rfl (fun h49 => ?_) (fun h49 => ?_)
            · have hD := hD.1 h49
              show u_P L xs m d m_X12_escaped 243 [(8, .int (x2 * (x3 - (f_X12_hourOf x7 S)))), (0, .ref 100), (1, .int x1), (2, .int x2), (3, .int x3), (4, .int x4), (5, .int x5), (6, .int x6), (7, .int x7)] [] S R _
              refine u_st rfl (fun _ => rfl) ?_
              refine u_st rfl (fun _ => rfl) ?_
              show u_P L xs m d m_X12_escaped 246 [(8, .int (x2 * (x3 - (f_X12_hourOf x7 S)))), (0, .ref 100), (1, .int x1), (2, .int x2), (3, .int x3), (4, .int x4), (5, .int x5), (6, .int x6), (7, .int x7)] [.ref 100, .int x5] S R _
              refine u_getr rfl v_tyM rfl ?_
              refine u_st rfl (fun _ => rfl) ?_
              show u_P L xs m d m_X12_escaped 251 [(8, .int (x2 * (x3 - (f_X12_hourOf x7 S)))), (0, .ref 100), (1, .int x1), (2, .int x2), (3, .int x3), (4, .int x4), (5, .int x5), (6, .int x6), (7, .int x7)] [.int x7, .ref 168, .int x5] S R _
              refine u_ialdE (v := S 167 x7.toInt.toNat) rfl rfl rfl (fun b501 b502 => ?_)
              have hD := hD b501 b502
              show u_P L xs m d m_X12_escaped 252 [(8, .int (x2 * (x3 - (f_X12_hourOf x7 S)))), (0, .ref 100), (1, .int x1), (2, .int x2), (3, .int x3), (4, .int x4), (5, .int x5), (6, .int x6), (7, .int x7)] [.int (S 167 x7.toInt.toNat), .int x5] S R _
              refine u_st rfl (fun _ => rfl) ?_
              refine u_st rfl (fun _ => rfl) ?_
              show u_P L xs m d m_X12_escaped 255 [(8, .int (x2 * (x3 - (f_X12_hourOf x7 S)))), (0, .ref 100), (1, .int x1), (2, .int x2), (3, .int x3), (4, .int x4), (5, .int x5), (6, .int x6), (7, .int x7)] [.int ((S 167 x7.toInt.toNat) - (x2 * (x3 - (f_X12_hourOf x7 S)))), .int x5] S R _
              refine u_cs (ac := [.int x5, .int ((S 167 x7.toInt.toNat) - (x2 * (x3 - (f_X12_hourOf x7 S))))]) (rest := []) rfl (by decide) mt_X12_higher (fun _ => rfl) (Nat.le_of_ble_eq_true rfl) (Nat.le_of_ble_eq_true rfl) (fun d' => c_X12_higher L xs m d' x5 ((S 167 x7.toInt.toNat) - (x2 * (x3 - (f_X12_hourOf x7 S)))) S R) ?_
              rintro _ _ _ ⟨_, rfl, rfl, rfl, rfl⟩
              refine u_st rfl (fun _ => rfl) ?_
              refine u_st rfl (fun _ => rfl) ?_
              refine u_st rfl (fun _ => rfl) ?_
              show u_P L xs m d m_X12_escaped 263 [(5, .int (f_X12_higher x5 ((S 167 x7.toInt.toNat) - (x2 * (x3 - (f_X12_hourOf x7 S)))))), (8, .int (x2 * (x3 - (f_X12_hourOf x7 S)))), (0, .ref 100), (1, .int x1), (2, .int x2), (3, .int x3), (4, .int x4), (6, .int x6), (7, .int x7)] [.ref 100, .int x6] S R _
              refine u_getr rfl v_tyM rfl ?_
              refine u_st rfl (fun _ => rfl) ?_
              show u_P L xs m d m_X12_escaped 268 [(5, .int (f_X12_higher x5 ((S 167 x7.toInt.toNat) - (x2 * (x3 - (f_X12_hourOf x7 S)))))), (8, .int (x2 * (x3 - (f_X12_hourOf x7 S)))), (0, .ref 100), (1, .int x1), (2, .int x2), (3, .int x3), (4, .int x4), (6, .int x6), (7, .int x7)] [.int x7, .ref 169, .int x6] S R _
              refine u_ialdE (v := S 168 x7.toInt.toNat) rfl rfl rfl (fun b511 b512 => ?_)
              have hD := hD b511 b512
              show u_P L xs m d m_X12_escaped 269 [(5, .int (f_X12_higher x5 ((S 167 x7.toInt.toNat) - (x2 * (x3 - (f_X12_hourOf x7 S)))))), (8, .int (x2 * (x3 - (f_X12_hourOf x7 S)))), (0, .ref 100), (1, .int x1), (2, .int x2), (3, .int x3), (4, .int x4), (6, .int x6), (7, .int x7)] [.int (S 168 x7.toInt.toNat), .int x6] S R _
              refine u_st rfl (fun _ => rfl) ?_
              refine u_st rfl (fun _ => rfl) ?_
              show u_P L xs m d m_X12_escaped 272 [(5, .int (f_X12_higher x5 ((S 167 x7.toInt.toNat) - (x2 * (x3 - (f_X12_hourOf x7 S)))))), (8, .int (x2 * (x3 - (f_X12_hourOf x7 S)))), (0, .ref 100), (1, .int x1), (2, .int x2), (3, .int x3), (4, .int x4), (6, .int x6), (7, .int x7)] [.int ((S 168 x7.toInt.toNat) + (x2 * (x3 - (f_X12_hourOf x7 S)))), .int x6] S R _
              refine u_cs (ac := [.int x6, .int ((S 168 x7.toInt.toNat) + (x2 * (x3 - (f_X12_hourOf x7 S))))]) (rest := []) rfl (by decide) mt_X12_lower (fun _ => rfl) (Nat.le_of_ble_eq_true rfl) (Nat.le_of_ble_eq_true rfl) (fun d' => c_X12_lower L xs m d' x6 ((S 168 x7.toInt.toNat) + (x2 * (x3 - (f_X12_hourOf x7 S)))) S R) ?_
              rintro _ _ _ ⟨_, rfl, rfl, rfl, rfl⟩
              refine u_st rfl (fun _ => rfl) ?_
              refine u_st rfl (fun _ => rfl) ?_
              refine u_st rfl (fun _ => rfl) ?_
              show u_P L xs m d m_X12_escaped 280 [(6, .int (f_X12_lower x6 ((S 168 x7.toInt.toNat) + (x2 * (x3 - (f_X12_hourOf x7 S)))))), (5, .int (f_X12_higher x5 ((S 167 x7.toInt.toNat) - (x2 * (x3 - (f_X12_hourOf x7 S)))))), (8, .int (x2 * (x3 - (f_X12_hourOf x7 S)))), (0, .ref 100), (1, .int x1), (2, .int x2), (3, .int x3), (4, .int x4), (7, .int x7)] [.int x7, .ref 100] S R _
              refine u_cv (rest := []) rfl (by decide) mt_X12_hourOf v_tyM rfl rfl rfl (Nat.le_of_ble_eq_true rfl) (Nat.le_of_ble_eq_true rfl) (Nat.le_of_ble_eq_true rfl) (fun d' => c_X12_hourOf L xs m d' x7 S R) ?_
              rintro _ _ _ ⟨_, rfl, rfl, rfl, rfl⟩
              refine u_st rfl (fun _ => rfl) ?_
              show u_P L xs m d m_X12_escaped 284 [(6, .int (f_X12_lower x6 ((S 168 x7.toInt.toNat) + (x2 * (x3 - (f_X12_hourOf x7 S)))))), (5, .int (f_X12_higher x5 ((S 167 x7.toInt.toNat) - (x2 * (x3 - (f_X12_hourOf x7 S)))))), (8, .int (x2 * (x3 - (f_X12_hourOf x7 S)))), (0, .ref 100), (1, .int x1), (2, .int x2), (3, .int x3), (4, .int x4), (7, .int x7)] [.int x3, .int (f_X12_hourOf x7 S)] S R _
              refine u_ic_le rfl (fun h52 => ?_) (fun h52 => ?_)
              · have hD := hD.1 h52
                show u_P L xs m d m_X12_escaped 338 [(6, .int (f_X12_lower x6 ((S 168 x7.toInt.toNat) + (x2 * (x3 - (f_X12_hourOf x7 S)))))), (5, .int (f_X12_higher x5 ((S 167 x7.toInt.toNat) - (x2 * (x3 - (f_X12_hourOf x7 S)))))), (8, .int (x2 * (x3 - (f_X12_hourOf x7 S)))), (0, .ref 100), (1, .int x1), (2, .int x2), (3, .int x3), (4, .int x4), (7, .int x7)] [] S R _
                refine u_st rfl (fun _ => rfl) ?_
                refine u_st rfl (fun _ => rfl) ?_
                refine u_lc (b := [(0, .ref 100), (1, .int x1), (2, .int x2), (3, .int x3), (4, .int x4), (5, .int (f_X12_higher x5 ((S 167 x7.toInt.toNat) - (x2 * (x3 - (f_X12_hourOf x7 S)))))), (6, .int (f_X12_lower x6 ((S 168 x7.toInt.toNat) + (x2 * (x3 - (f_X12_hourOf x7 S)))))), (7, .int (x7 + (Int32.ofInt 1))), (8, .int (x2 * (x3 - (f_X12_hourOf x7 S))))]) (show ([7, 6, 5, 8, 0, 1, 2, 3, 4] : List Nat).Nodup by decide) (show ([0, 1, 2, 3, 4, 5, 6, 7, 8] : List Nat).Nodup by decide) (fun i => match i with | 0 => rfl | 1 => rfl | 2 => rfl | 3 => rfl | 4 => rfl | 5 => rfl | 6 => rfl | 7 => rfl | 8 => rfl | _ + 9 => rfl) ?_
                exact (ih m hm).2.2 d (x2 * (x3 - (f_X12_hourOf x7 S))) x1 x2 x3 x4 (f_X12_higher x5 ((S 167 x7.toInt.toNat) - (x2 * (x3 - (f_X12_hourOf x7 S))))) (f_X12_lower x6 ((S 168 x7.toInt.toNat) + (x2 * (x3 - (f_X12_hourOf x7 S))))) (x7 + (Int32.ofInt 1)) S hD
              · have hD := hD.2 h52
                show u_P L xs m d m_X12_escaped 287 [(6, .int (f_X12_lower x6 ((S 168 x7.toInt.toNat) + (x2 * (x3 - (f_X12_hourOf x7 S)))))), (5, .int (f_X12_higher x5 ((S 167 x7.toInt.toNat) - (x2 * (x3 - (f_X12_hourOf x7 S)))))), (8, .int (x2 * (x3 - (f_X12_hourOf x7 S)))), (0, .ref 100), (1, .int x1), (2, .int x2), (3, .int x3), (4, .int x4), (7, .int x7)] [] S R _
                refine u_st rfl (fun _ => rfl) ?_
                show u_P L xs m d m_X12_escaped 289 [(6, .int (f_X12_lower x6 ((S 168 x7.toInt.toNat) + (x2 * (x3 - (f_X12_hourOf x7 S)))))), (5, .int (f_X12_higher x5 ((S 167 x7.toInt.toNat) - (x2 * (x3 - (f_X12_hourOf x7 S)))))), (8, .int (x2 * (x3 - (f_X12_hourOf x7 S)))), (0, .ref 100), (1, .int x1), (2, .int x2), (3, .int x3), (4, .int x4), (7, .int x7)] [.int x7] S R _
                refine u_if_eq rfl (fun h53 => ?_) (fun h53 => ?_)
                · have hD := hD.1 h53
                  show u_P L xs m d m_X12_escaped 304 [(6, .int (f_X12_lower x6 ((S 168 x7.toInt.toNat) + (x2 * (x3 - (f_X12_hourOf x7 S)))))), (5, .int (f_X12_higher x5 ((S 167 x7.toInt.toNat) - (x2 * (x3 - (f_X12_hourOf x7 S)))))), (8, .int (x2 * (x3 - (f_X12_hourOf x7 S)))), (0, .ref 100), (1, .int x1), (2, .int x2), (3, .int x3), (4, .int x4), (7, .int x7)] [] S R _
                  refine u_st rfl (fun _ => rfl) ?_
                  refine u_st rfl (fun _ => rfl) ?_
                  show u_P L xs m d m_X12_escaped 307 [(6, .int (f_X12_lower x6 ((S 168 x7.toInt.toNat) + (x2 * (x3 - (f_X12_hourOf x7 S)))))), (5, .int (f_X12_higher x5 ((S 167 x7.toInt.toNat) - (x2 * (x3 - (f_X12_hourOf x7 S)))))), (8, .int (x2 * (x3 - (f_X12_hourOf x7 S)))), (0, .ref 100), (1, .int x1), (2, .int x2), (3, .int x3), (4, .int x4), (7, .int x7)] [.ref 100, .int (f_X12_higher x5 ((S 167 x7.toInt.toNat) - (x2 * (x3 - (f_X12_hourOf x7 S)))))] S R _
                  refine u_getr rfl v_tyM rfl ?_
                  refine u_st rfl (fun _ => rfl) ?_
                  show u_P L xs m d m_X12_escaped 312 [(6, .int (f_X12_lower x6 ((S 168 x7.toInt.toNat) + (x2 * (x3 - (f_X12_hourOf x7 S)))))), (5, .int (f_X12_higher x5 ((S 167 x7.toInt.toNat) - (x2 * (x3 - (f_X12_hourOf x7 S)))))), (8, .int (x2 * (x3 - (f_X12_hourOf x7 S)))), (0, .ref 100), (1, .int x1), (2, .int x2), (3, .int x3), (4, .int x4), (7, .int x7)] [.int x7, .ref 170, .int (f_X12_higher x5 ((S 167 x7.toInt.toNat) - (x2 * (x3 - (f_X12_hourOf x7 S)))))] S R _
                  refine u_ialdE (v := S 169 x7.toInt.toNat) rfl rfl rfl (fun b541 b542 => ?_)
                  have hD := hD b541 b542
                  show u_P L xs m d m_X12_escaped 313 [(6, .int (f_X12_lower x6 ((S 168 x7.toInt.toNat) + (x2 * (x3 - (f_X12_hourOf x7 S)))))), (5, .int (f_X12_higher x5 ((S 167 x7.toInt.toNat) - (x2 * (x3 - (f_X12_hourOf x7 S)))))), (8, .int (x2 * (x3 - (f_X12_hourOf x7 S)))), (0, .ref 100), (1, .int x1), (2, .int x2), (3, .int x3), (4, .int x4), (7, .int x7)] [.int (S 169 x7.toInt.toNat), .int (f_X12_higher x5 ((S 167 x7.toInt.toNat) - (x2 * (x3 - (f_X12_hourOf x7 S)))))] S R _
                  refine u_st rfl (fun _ => rfl) ?_
                  refine u_st rfl (fun _ => rfl) ?_
                  show u_P L xs m d m_X12_escaped 316 [(6, .int (f_X12_lower x6 ((S 168 x7.toInt.toNat) + (x2 * (x3 - (f_X12_hourOf x7 S)))))), (5, .int (f_X12_higher x5 ((S 167 x7.toInt.toNat) - (x2 * (x3 - (f_X12_hourOf x7 S)))))), (8, .int (x2 * (x3 - (f_X12_hourOf x7 S)))), (0, .ref 100), (1, .int x1), (2, .int x2), (3, .int x3), (4, .int x4), (7, .int x7)] [.int ((S 169 x7.toInt.toNat) - (x2 * (x3 - (f_X12_hourOf x7 S)))), .int (f_X12_higher x5 ((S 167 x7.toInt.toNat) - (x2 * (x3 - (f_X12_hourOf x7 S)))))] S R _
                  refine u_cs (ac := [.int (f_X12_higher x5 ((S 167 x7.toInt.toNat) - (x2 * (x3 - (f_X12_hourOf x7 S))))), .int ((S 169 x7.toInt.toNat) - (x2 * (x3 - (f_X12_hourOf x7 S))))]) (rest := []) rfl (by decide) mt_X12_higher (fun _ => rfl) (Nat.le_of_ble_eq_true rfl) (Nat.le_of_ble_eq_true rfl) (fun d' => c_X12_higher L xs m d' (f_X12_higher x5 ((S 167 x7.toInt.toNat) - (x2 * (x3 - (f_X12_hourOf x7 S))))) ((S 169 x7.toInt.toNat) - (x2 * (x3 - (f_X12_hourOf x7 S)))) S R) ?_
                  rintro _ _ _ ⟨_, rfl, rfl, rfl, rfl⟩
                  refine u_st rfl (fun _ => rfl) ?_
                  refine u_st rfl (fun _ => rfl) ?_
                  refine u_st rfl (fun _ => rfl) ?_
                  show u_P L xs m d m_X12_escaped 324 [(5, .int (f_X12_higher (f_X12_higher x5 ((S 167 x7.toInt.toNat) - (x2 * (x3 - (f_X12_hourOf x7 S))))) ((S 169 x7.toInt.toNat) - (x2 * (x3 - (f_X12_hourOf x7 S)))))), (6, .int (f_X12_lower x6 ((S 168 x7.toInt.toNat) + (x2 * (x3 - (f_X12_hourOf x7 S)))))), (8, .int (x2 * (x3 - (f_X12_hourOf x7 S)))), (0, .ref 100), (1, .int x1), (2, .int x2), (3, .int x3), (4, .int x4), (7, .int x7)] [.ref 100, .int (f_X12_lower x6 ((S 168 x7.toInt.toNat) + (x2 * (x3 - (f_X12_hourOf x7 S)))))] S R _
                  refine u_getr rfl v_tyM rfl ?_
                  refine u_st rfl (fun _ => rfl) ?_
                  show u_P L xs m d m_X12_escaped 329 [(5, .int (f_X12_higher (f_X12_higher x5 ((S 167 x7.toInt.toNat) - (x2 * (x3 - (f_X12_hourOf x7 S))))) ((S 169 x7.toInt.toNat) - (x2 * (x3 - (f_X12_hourOf x7 S)))))), (6, .int (f_X12_lower x6 ((S 168 x7.toInt.toNat) + (x2 * (x3 - (f_X12_hourOf x7 S)))))), (8, .int (x2 * (x3 - (f_X12_hourOf x7 S)))), (0, .ref 100), (1, .int x1), (2, .int x2), (3, .int x3), (4, .int x4), (7, .int x7)] [.int x7, .ref 171, .int (f_X12_lower x6 ((S 168 x7.toInt.toNat) + (x2 * (x3 - (f_X12_hourOf x7 S)))))] S R _
                  refine u_ialdE (v := S 170 x7.toInt.toNat) rfl rfl rfl (fun b551 b552 => ?_)
                  have hD := hD b551 b552
                  show u_P L xs m d m_X12_escaped 330 [(5, .int (f_X12_higher (f_X12_higher x5 ((S 167 x7.toInt.toNat) - (x2 * (x3 - (f_X12_hourOf x7 S))))) ((S 169 x7.toInt.toNat) - (x2 * (x3 - (f_X12_hourOf x7 S)))))), (6, .int (f_X12_lower x6 ((S 168 x7.toInt.toNat) + (x2 * (x3 - (f_X12_hourOf x7 S)))))), (8, .int (x2 * (x3 - (f_X12_hourOf x7 S)))), (0, .ref 100), (1, .int x1), (2, .int x2), (3, .int x3), (4, .int x4), (7, .int x7)] [.int (S 170 x7.toInt.toNat), .int (f_X12_lower x6 ((S 168 x7.toInt.toNat) + (x2 * (x3 - (f_X12_hourOf x7 S)))))] S R _
                  refine u_st rfl (fun _ => rfl) ?_
                  refine u_st rfl (fun _ => rfl) ?_
                  show u_P L xs m d m_X12_escaped 333 [(5, .int (f_X12_higher (f_X12_higher x5 ((S 167 x7.toInt.toNat) - (x2 * (x3 - (f_X12_hourOf x7 S))))) ((S 169 x7.toInt.toNat) - (x2 * (x3 - (f_X12_hourOf x7 S)))))), (6, .int (f_X12_lower x6 ((S 168 x7.toInt.toNat) + (x2 * (x3 - (f_X12_hourOf x7 S)))))), (8, .int (x2 * (x3 - (f_X12_hourOf x7 S)))), (0, .ref 100), (1, .int x1), (2, .int x2), (3, .int x3), (4, .int x4), (7, .int x7)] [.int ((S 170 x7.toInt.toNat) + (x2 * (x3 - (f_X12_hourOf x7 S)))), .int (f_X12_lower x6 ((S 168 x7.toInt.toNat) + (x2 * (x3 - (f_X12_hourOf x7 S)))))] S R _
                  refine u_cs (ac := [.int (f_X12_lower x6 ((S 168 x7.toInt.toNat) + (x2 * (x3 - (f_X12_hourOf x7 S))))), .int ((S 170 x7.toInt.toNat) + (x2 * (x3 - (f_X12_hourOf x7 S))))]) (rest := []) rfl (by decide) mt_X12_lower (fun _ => rfl) (Nat.le_of_ble_eq_true rfl) (Nat.le_of_ble_eq_true rfl) (fun d' => c_X12_lower L xs m d' (f_X12_lower x6 ((S 168 x7.toInt.toNat) + (x2 * (x3 - (f_X12_hourOf x7 S))))) ((S 170 x7.toInt.toNat) + (x2 * (x3 - (f_X12_hourOf x7 S)))) S R) ?_
                  rintro _ _ _ ⟨_, rfl, rfl, rfl, rfl⟩
                  refine u_st rfl (fun _ => rfl) ?_
                  refine u_st rfl (fun _ => rfl) ?_
                  refine u_st rfl (fun _ => rfl) ?_
                  refine u_lc (b := [(0, .ref 100), (1, .int x1), (2, .int x2), (3, .int x3), (4, .int x4), (5, .int (f_X12_higher (f_X12_higher x5 ((S 167 x7.toInt.toNat) - (x2 * (x3 - (f_X12_hourOf x7 S))))) ((S 169 x7.toInt.toNat) - (x2 * (x3 - (f_X12_hourOf x7 S)))))), (6, .int (f_X12_lower (f_X12_lower x6 ((S 168 x7.toInt.toNat) + (x2 * (x3 - (f_X12_hourOf x7 S))))) ((S 170 x7.toInt.toNat) + (x2 * (x3 - (f_X12_hourOf x7 S)))))), (7, .int (x7 + (Int32.ofInt 1))), (8, .int (x2 * (x3 - (f_X12_hourOf x7 S))))]) (show ([7, 6, 5, 8, 0, 1, 2, 3, 4] : List Nat).Nodup by decide) (show ([0, 1, 2, 3, 4, 5, 6, 7, 8] : List Nat).Nodup by decide) (fun i => match i with | 0 => rfl | 1 => rfl | 2 => rfl | 3 => rfl | 4 => rfl | 5 => rfl | 6 => rfl | 7 => rfl | 8 => rfl | _ + 9 => rfl) ?_
                  exact (ih m hm).2.2 d (x2 * (x3 - (f_X12_hourOf x7 S))) x1 x2 x3 x4 (f_X12_higher (f_X12_higher x5 ((S 167 x7.toInt.toNat) - (x2 * (x3 - (f_X12_hourOf x7 S))))) ((S 169 x7.toInt.toNat) - (x2 * (x3 - (f_X12_hourOf x7 S))))) (f_X12_lower (f_X12_lower x6 ((S 168 x7.toInt.toNat) + (x2 * (x3 - (f_X12_hourOf x7 S))))) ((S 170 x7.toInt.toNat) + (x2 * (x3 - (f_X12_hourOf x7 S))))) (x7 + (Int32.ofInt 1)) S hD
                · have hD := hD.2 h53
                  show u_P L xs m d m_X12_escaped 292 [(6, .int (f_X12_lower x6 ((S 168 x7.toInt.toNat) + (x2 * (x3 - (f_X12_hourOf x7 S)))))), (5, .int (f_X12_higher x5 ((S 167 x7.toInt.toNat) - (x2 * (x3 - (f_X12_hourOf x7 S)))))), (8, .int (x2 * (x3 - (f_X12_hourOf x7 S)))), (0, .ref 100), (1, .int x1), (2, .int x2), (3, .int x3), (4, .int x4), (7, .int x7)] [] S R _
                  refine u_st rfl (fun _ => rfl) ?_
                  refine u_st rfl (fun _ => rfl) ?_
                  refine u_st rfl (fun _ => rfl) ?_
                  refine u_st rfl (fun _ => rfl) ?_
                  show u_P L xs m d m_X12_escaped 297 [(6, .int (f_X12_lower x6 ((S 168 x7.toInt.toNat) + (x2 * (x3 - (f_X12_hourOf x7 S)))))), (5, .int (f_X12_higher x5 ((S 167 x7.toInt.toNat) - (x2 * (x3 - (f_X12_hourOf x7 S)))))), (8, .int (x2 * (x3 - (f_X12_hourOf x7 S)))), (0, .ref 100), (1, .int x1), (2, .int x2), (3, .int x3), (4, .int x4), (7, .int x7)] [.int (x7 - (Int32.ofInt 1)), .ref 100] S R _
                  refine u_cv (rest := []) rfl (by decide) mt_X12_hourOf v_tyM rfl rfl rfl (Nat.le_of_ble_eq_true rfl) (Nat.le_of_ble_eq_true rfl) (Nat.le_of_ble_eq_true rfl) (fun d' => c_X12_hourOf L xs m d' (x7 - (Int32.ofInt 1)) S R) ?_
                  rintro _ _ _ ⟨_, rfl, rfl, rfl, rfl⟩
                  refine u_st rfl (fun _ => rfl) ?_
                  show u_P L xs m d m_X12_escaped 301 [(6, .int (f_X12_lower x6 ((S 168 x7.toInt.toNat) + (x2 * (x3 - (f_X12_hourOf x7 S)))))), (5, .int (f_X12_higher x5 ((S 167 x7.toInt.toNat) - (x2 * (x3 - (f_X12_hourOf x7 S)))))), (8, .int (x2 * (x3 - (f_X12_hourOf x7 S)))), (0, .ref 100), (1, .int x1), (2, .int x2), (3, .int x3), (4, .int x4), (7, .int x7)] [.int x3, .int (f_X12_hourOf (x7 - (Int32.ofInt 1)) S)] S R _
                  refine u_ic_gt rfl (fun h56 => ?_) (fun h56 => ?_)
                  · have hD := hD.1 h56
                    show u_P L xs m d m_X12_escaped 338 [(6, .int (f_X12_lower x6 ((S 168 x7.toInt.toNat) + (x2 * (x3 - (f_X12_hourOf x7 S)))))), (5, .int (f_X12_higher x5 ((S 167 x7.toInt.toNat) - (x2 * (x3 - (f_X12_hourOf x7 S)))))), (8, .int (x2 * (x3 - (f_X12_hourOf x7 S)))), (0, .ref 100), (1, .int x1), (2, .int x2), (3, .int x3), (4, .int x4), (7, .int x7)] [] S R _
                    refine u_st rfl (fun _ => rfl) ?_
                    refine u_st rfl (fun _ => rfl) ?_
                    refine u_lc (b := [(0, .ref 100), (1, .int x1), (2, .int x2), (3, .int x3), (4, .int x4), (5, .int (f_X12_higher x5 ((S 167 x7.toInt.toNat) - (x2 * (x3 - (f_X12_hourOf x7 S)))))), (6, .int (f_X12_lower x6 ((S 168 x7.toInt.toNat) + (x2 * (x3 - (f_X12_hourOf x7 S)))))), (7, .int (x7 + (Int32.ofInt 1))), (8, .int (x2 * (x3 - (f_X12_hourOf x7 S))))]) (show ([7, 6, 5, 8, 0, 1, 2, 3, 4] : List Nat).Nodup by decide) (show ([0, 1, 2, 3, 4, 5, 6, 7, 8] : List Nat).Nodup by decide) (fun i => match i with | 0 => rfl | 1 => rfl | 2 => rfl | 3 => rfl | 4 => rfl | 5 => rfl | 6 => rfl | 7 => rfl | 8 => rfl | _ + 9 => rfl) ?_
                    exact (ih m hm).2.2 d (x2 * (x3 - (f_X12_hourOf x7 S))) x1 x2 x3 x4 (f_X12_higher x5 ((S 167 x7.toInt.toNat) - (x2 * (x3 - (f_X12_hourOf x7 S))))) (f_X12_lower x6 ((S 168 x7.toInt.toNat) + (x2 * (x3 - (f_X12_hourOf x7 S))))) (x7 + (Int32.ofInt 1)) S hD
                  · have hD := hD.2 h56
                    show u_P L xs m d m_X12_escaped 304 [(6, .int (f_X12_lower x6 ((S 168 x7.toInt.toNat) + (x2 * (x3 - (f_X12_hourOf x7 S)))))), (5, .int (f_X12_higher x5 ((S 167 x7.toInt.toNat) - (x2 * (x3 - (f_X12_hourOf x7 S)))))), (8, .int (x2 * (x3 - (f_X12_hourOf x7 S)))), (0, .ref 100), (1, .int x1), (2, .int x2), (3, .int x3), (4, .int x4), (7, .int x7)] [] S R _
                    refine u_st rfl (fun _ => rfl) ?_
                    refine u_st rfl (fun _ => rfl) ?_
                    show u_P L xs m d m_X12_escaped 307 [(6, .int (f_X12_lower x6 ((S 168 x7.toInt.toNat) + (x2 * (x3 - (f_X12_hourOf x7 S)))))), (5, .int (f_X12_higher x5 ((S 167 x7.toInt.toNat) - (x2 * (x3 - (f_X12_hourOf x7 S)))))), (8, .int (x2 * (x3 - (f_X12_hourOf x7 S)))), (0, .ref 100), (1, .int x1), (2, .int x2), (3, .int x3), (4, .int x4), (7, .int x7)] [.ref 100, .int (f_X12_higher x5 ((S 167 x7.toInt.toNat) - (x2 * (x3 - (f_X12_hourOf x7 S)))))] S R _
                    refine u_getr rfl v_tyM rfl ?_
                    refine u_st rfl (fun _ => rfl) ?_
                    show u_P L xs m d m_X12_escaped 312 [(6, .int (f_X12_lower x6 ((S 168 x7.toInt.toNat) + (x2 * (x3 - (f_X12_hourOf x7 S)))))), (5, .int (f_X12_higher x5 ((S 167 x7.toInt.toNat) - (x2 * (x3 - (f_X12_hourOf x7 S)))))), (8, .int (x2 * (x3 - (f_X12_hourOf x7 S)))), (0, .ref 100), (1, .int x1), (2, .int x2), (3, .int x3), (4, .int x4), (7, .int x7)] [.int x7, .ref 170, .int (f_X12_higher x5 ((S 167 x7.toInt.toNat) - (x2 * (x3 - (f_X12_hourOf x7 S)))))] S R _
                    refine u_ialdE (v := S 169 x7.toInt.toNat) rfl rfl rfl (fun b571 b572 => ?_)
                    have hD := hD b571 b572
                    show u_P L xs m d m_X12_escaped 313 [(6, .int (f_X12_lower x6 ((S 168 x7.toInt.toNat) + (x2 * (x3 - (f_X12_hourOf x7 S)))))), (5, .int (f_X12_higher x5 ((S 167 x7.toInt.toNat) - (x2 * (x3 - (f_X12_hourOf x7 S)))))), (8, .int (x2 * (x3 - (f_X12_hourOf x7 S)))), (0, .ref 100), (1, .int x1), (2, .int x2), (3, .int x3), (4, .int x4), (7, .int x7)] [.int (S 169 x7.toInt.toNat), .int (f_X12_higher x5 ((S 167 x7.toInt.toNat) - (x2 * (x3 - (f_X12_hourOf x7 S)))))] S R _
                    refine u_st rfl (fun _ => rfl) ?_
                    refine u_st rfl (fun _ => rfl) ?_
                    show u_P L xs m d m_X12_escaped 316 [(6, .int (f_X12_lower x6 ((S 168 x7.toInt.toNat) + (x2 * (x3 - (f_X12_hourOf x7 S)))))), (5, .int (f_X12_higher x5 ((S 167 x7.toInt.toNat) - (x2 * (x3 - (f_X12_hourOf x7 S)))))), (8, .int (x2 * (x3 - (f_X12_hourOf x7 S)))), (0, .ref 100), (1, .int x1), (2, .int x2), (3, .int x3), (4, .int x4), (7, .int x7)] [.int ((S 169 x7.toInt.toNat) - (x2 * (x3 - (f_X12_hourOf x7 S)))), .int (f_X12_higher x5 ((S 167 x7.toInt.toNat) - (x2 * (x3 - (f_X12_hourOf x7 S)))))] S R _
                    refine u_cs (ac := [.int (f_X12_higher x5 ((S 167 x7.toInt.toNat) - (x2 * (x3 - (f_X12_hourOf x7 S))))), .int ((S 169 x7.toInt.toNat) - (x2 * (x3 - (f_X12_hourOf x7 S))))]) (rest := []) rfl (by decide) mt_X12_higher (fun _ => rfl) (Nat.le_of_ble_eq_true rfl) (Nat.le_of_ble_eq_true rfl) (fun d' => c_X12_higher L xs m d' (f_X12_higher x5 ((S 167 x7.toInt.toNat) - (x2 * (x3 - (f_X12_hourOf x7 S))))) ((S 169 x7.toInt.toNat) - (x2 * (x3 - (f_X12_hourOf x7 S)))) S R) ?_
                    rintro _ _ _ ⟨_, rfl, rfl, rfl, rfl⟩
                    refine u_st rfl (fun _ => rfl) ?_
                    refine u_st rfl (fun _ => rfl) ?_
                    refine u_st rfl (fun _ => rfl) ?_
                    show u_P L xs m d m_X12_escaped 324 [(5, .int (f_X12_higher (f_X12_higher x5 ((S 167 x7.toInt.toNat) - (x2 * (x3 - (f_X12_hourOf x7 S))))) ((S 169 x7.toInt.toNat) - (x2 * (x3 - (f_X12_hourOf x7 S)))))), (6, .int (f_X12_lower x6 ((S 168 x7.toInt.toNat) + (x2 * (x3 - (f_X12_hourOf x7 S)))))), (8, .int (x2 * (x3 - (f_X12_hourOf x7 S)))), (0, .ref 100), (1, .int x1), (2, .int x2), (3, .int x3), (4, .int x4), (7, .int x7)] [.ref 100, .int (f_X12_lower x6 ((S 168 x7.toInt.toNat) + (x2 * (x3 - (f_X12_hourOf x7 S)))))] S R _
                    refine u_getr rfl v_tyM rfl ?_
                    refine u_st rfl (fun _ => rfl) ?_
                    show u_P L xs m d m_X12_escaped 329 [(5, .int (f_X12_higher (f_X12_higher x5 ((S 167 x7.toInt.toNat) - (x2 * (x3 - (f_X12_hourOf x7 S))))) ((S 169 x7.toInt.toNat) - (x2 * (x3 - (f_X12_hourOf x7 S)))))), (6, .int (f_X12_lower x6 ((S 168 x7.toInt.toNat) + (x2 * (x3 - (f_X12_hourOf x7 S)))))), (8, .int (x2 * (x3 - (f_X12_hourOf x7 S)))), (0, .ref 100), (1, .int x1), (2, .int x2), (3, .int x3), (4, .int x4), (7, .int x7)] [.int x7, .ref 171, .int (f_X12_lower x6 ((S 168 x7.toInt.toNat) + (x2 * (x3 - (f_X12_hourOf x7 S)))))] S R _
                    refine u_ialdE (v := S 170 x7.toInt.toNat) rfl rfl rfl (fun b581 b582 => ?_)
                    have hD := hD b581 b582
                    show u_P L xs m d m_X12_escaped 330 [(5, .int (f_X12_higher (f_X12_higher x5 ((S 167 x7.toInt.toNat) - (x2 * (x3 - (f_X12_hourOf x7 S))))) ((S 169 x7.toInt.toNat) - (x2 * (x3 - (f_X12_hourOf x7 S)))))), (6, .int (f_X12_lower x6 ((S 168 x7.toInt.toNat) + (x2 * (x3 - (f_X12_hourOf x7 S)))))), (8, .int (x2 * (x3 - (f_X12_hourOf x7 S)))), (0, .ref 100), (1, .int x1), (2, .int x2), (3, .int x3), (4, .int x4), (7, .int x7)] [.int (S 170 x7.toInt.toNat), .int (f_X12_lower x6 ((S 168 x7.toInt.toNat) + (x2 * (x3 - (f_X12_hourOf x7 S)))))] S R _
                    refine u_st rfl (fun _ => rfl) ?_
                    refine u_st rfl (fun _ => rfl) ?_
                    show u_P L xs m d m_X12_escaped 333 [(5, .int (f_X12_higher (f_X12_higher x5 ((S 167 x7.toInt.toNat) - (x2 * (x3 - (f_X12_hourOf x7 S))))) ((S 169 x7.toInt.toNat) - (x2 * (x3 - (f_X12_hourOf x7 S)))))), (6, .int (f_X12_lower x6 ((S 168 x7.toInt.toNat) + (x2 * (x3 - (f_X12_hourOf x7 S)))))), (8, .int (x2 * (x3 - (f_X12_hourOf x7 S)))), (0, .ref 100), (1, .int x1), (2, .int x2), (3, .int x3), (4, .int x4), (7, .int x7)] [.int ((S 170 x7.toInt.toNat) + (x2 * (x3 - (f_X12_hourOf x7 S)))), .int (f_X12_lower x6 ((S 168 x7.toInt.toNat) + (x2 * (x3 - (f_X12_hourOf x7 S)))))] S R _
                    refine u_cs (ac := [.int (f_X12_lower x6 ((S 168 x7.toInt.toNat) + (x2 * (x3 - (f_X12_hourOf x7 S))))), .int ((S 170 x7.toInt.toNat) + (x2 * (x3 - (f_X12_hourOf x7 S))))]) (rest := []) rfl (by decide) mt_X12_lower (fun _ => rfl) (Nat.le_of_ble_eq_true rfl) (Nat.le_of_ble_eq_true rfl) (fun d' => c_X12_lower L xs m d' (f_X12_lower x6 ((S 168 x7.toInt.toNat) + (x2 * (x3 - (f_X12_hourOf x7 S))))) ((S 170 x7.toInt.toNat) + (x2 * (x3 - (f_X12_hourOf x7 S)))) S R) ?_
                    rintro _ _ _ ⟨_, rfl, rfl, rfl, rfl⟩
                    refine u_st rfl (fun _ => rfl) ?_
                    refine u_st rfl (fun _ => rfl) ?_
                    refine u_st rfl (fun _ => rfl) ?_
                    refine u_lc (b := [(0, .ref 100), (1, .int x1), (2, .int x2), (3, .int x3), (4, .int x4), (5, .int (f_X12_higher (f_X12_higher x5 ((S 167 x7.toInt.toNat) - (x2 * (x3 - (f_X12_hourOf x7 S))))) ((S 169 x7.toInt.toNat) - (x2 * (x3 - (f_X12_hourOf x7 S)))))), (6, .int (f_X12_lower (f_X12_lower x6 ((S 168 x7.toInt.toNat) + (x2 * (x3 - (f_X12_hourOf x7 S))))) ((S 170 x7.toInt.toNat) + (x2 * (x3 - (f_X12_hourOf x7 S)))))), (7, .int (x7 + (Int32.ofInt 1))), (8, .int (x2 * (x3 - (f_X12_hourOf x7 S))))]) (show ([7, 6, 5, 8, 0, 1, 2, 3, 4] : List Nat).Nodup by decide) (show ([0, 1, 2, 3, 4, 5, 6, 7, 8] : List Nat).Nodup by decide) (fun i => match i with | 0 => rfl | 1 => rfl | 2 => rfl | 3 => rfl | 4 => rfl | 5 => rfl | 6 => rfl | 7 => rfl | 8 => rfl | _ + 9 => rfl) ?_
                    exact (ih m hm).2.2 d (x2 * (x3 - (f_X12_hourOf x7 S))) x1 x2 x3 x4 (f_X12_higher (f_X12_higher x5 ((S 167 x7.toInt.toNat) - (x2 * (x3 - (f_X12_hourOf x7 S))))) ((S 169 x7.toInt.toNat) - (x2 * (x3 - (f_X12_hourOf x7 S))))) (f_X12_lower (f_X12_lower x6 ((S 168 x7.toInt.toNat) + (x2 * (x3 - (f_X12_hourOf x7 S))))) ((S 170 x7.toInt.toNat) + (x2 * (x3 - (f_X12_hourOf x7 S))))) (x7 + (Int32.ofInt 1)) S hD
            · have hD := hD.2 h49
              show u_P L xs m d m_X12_escaped 231 [(8, .int (x2 * (x3 - (f_X12_hourOf x7 S)))), (0, .ref 100), (1, .int x1), (2, .int x2), (3, .int x3), (4, .int x4), (5, .int x5), (6, .int x6), (7, .int x7)] [] S R _
              refine u_st rfl (fun _ => rfl) ?_
              refine u_st rfl (fun _ => rfl) ?_
              refine u_st rfl (fun _ => rfl) ?_
              refine u_st rfl (fun _ => rfl) ?_
              show u_P L xs m d m_X12_escaped 236 [(8, .int (x2 * (x3 - (f_X12_hourOf x7 S)))), (0, .ref 100), (1, .int x1), (2, .int x2), (3, .int x3), (4, .int x4), (5, .int x5), (6, .int x6), (7, .int x7)] [.int (x7 + (Int32.ofInt 1)), .ref 100] S R _
              refine u_cv (rest := []) rfl (by decide) mt_X12_hourOf v_tyM rfl rfl rfl (Nat.le_of_ble_eq_true rfl) (Nat.le_of_ble_eq_true rfl) (Nat.le_of_ble_eq_true rfl) (fun d' => c_X12_hourOf L xs m d' (x7 + (Int32.ofInt 1)) S R) ?_
              rintro _ _ _ ⟨_, rfl, rfl, rfl, rfl⟩
              refine u_st rfl (fun _ => rfl) ?_
              show u_P L xs m d m_X12_escaped 240 [(8, .int (x2 * (x3 - (f_X12_hourOf x7 S)))), (0, .ref 100), (1, .int x1), (2, .int x2), (3, .int x3), (4, .int x4), (5, .int x5), (6, .int x6), (7, .int x7)] [.int x3, .int (f_X12_hourOf (x7 + (Int32.ofInt 1)) S)] S R _
              refine u_ic_le rfl (fun h59 => ?_) (fun h59 => ?_)
              · have hD := hD.1 h59
                show u_P L xs m d m_X12_escaped 277 [(8, .int (x2 * (x3 - (f_X12_hourOf x7 S)))), (0, .ref 100), (1, .int x1), (2, .int x2), (3, .int x3), (4, .int x4), (5, .int x5), (6, .int x6), (7, .int x7)] [] S R _
                refine u_st rfl (fun _ => rfl) ?_
                refine u_st rfl (fun _ => rfl) ?_
                show u_P L xs m d m_X12_escaped 280 [(8, .int (x2 * (x3 - (f_X12_hourOf x7 S)))), (0, .ref 100), (1, .int x1), (2, .int x2), (3, .int x3), (4, .int x4), (5, .int x5), (6, .int x6), (7, .int x7)] [.int x7, .ref 100] S R _
                refine u_cv (rest := []) rfl (by decide) mt_X12_hourOf v_tyM rfl rfl rfl (Nat.le_of_ble_eq_true rfl) (Nat.le_of_ble_eq_true rfl) (Nat.le_of_ble_eq_true rfl) (fun d' => c_X12_hourOf L xs m d' x7 S R) ?_
                rintro _ _ _ ⟨_, rfl, rfl, rfl, rfl⟩
                refine u_st rfl (fun _ => rfl) ?_
                show u_P L xs m d m_X12_escaped 284 [(8, .int (x2 * (x3 - (f_X12_hourOf x7 S)))), (0, .ref 100), (1, .int x1), (2, .int x2), (3, .int x3), (4, .int x4), (5, .int x5), (6, .int x6), (7, .int x7)] [.int x3, .int (f_X12_hourOf x7 S)] S R _
                refine u_ic_le rfl (fun h60 => ?_) (fun h60 => ?_)
                · have hD := hD.1 h60
                  show u_P L xs m d m_X12_escaped 338 [(8, .int (x2 * (x3 - (f_X12_hourOf x7 S)))), (0, .ref 100), (1, .int x1), (2, .int x2), (3, .int x3), (4, .int x4), (5, .int x5), (6, .int x6), (7, .int x7)] [] S R _
                  refine u_st rfl (fun _ => rfl) ?_
                  refine u_st rfl (fun _ => rfl) ?_
                  refine u_lc (b := [(0, .ref 100), (1, .int x1), (2, .int x2), (3, .int x3), (4, .int x4), (5, .int x5), (6, .int x6), (7, .int (x7 + (Int32.ofInt 1))), (8, .int (x2 * (x3 - (f_X12_hourOf x7 S))))]) (show ([7, 8, 0, 1, 2, 3, 4, 5, 6] : List Nat).Nodup by decide) (show ([0, 1, 2, 3, 4, 5, 6, 7, 8] : List Nat).Nodup by decide) (fun i => match i with | 0 => rfl | 1 => rfl | 2 => rfl | 3 => rfl | 4 => rfl | 5 => rfl | 6 => rfl | 7 => rfl | 8 => rfl | _ + 9 => rfl) ?_
                  exact (ih m hm).2.2 d (x2 * (x3 - (f_X12_hourOf x7 S))) x1 x2 x3 x4 x5 x6 (x7 + (Int32.ofInt 1)) S hD
                · have hD := hD.2 h60
                  show u_P L xs m d m_X12_escaped 287 [(8, .int (x2 * (x3 - (f_X12_hourOf x7 S)))), (0, .ref 100), (1, .int x1), (2, .int x2), (3, .int x3), (4, .int x4), (5, .int x5), (6, .int x6), (7, .int x7)] [] S R _
                  refine u_st rfl (fun _ => rfl) ?_
                  show u_P L xs m d m_X12_escaped 289 [(8, .int (x2 * (x3 - (f_X12_hourOf x7 S)))), (0, .ref 100), (1, .int x1), (2, .int x2), (3, .int x3), (4, .int x4), (5, .int x5), (6, .int x6), (7, .int x7)] [.int x7] S R _
                  refine u_if_eq rfl (fun h61 => ?_) (fun h61 => ?_)
                  · have hD := hD.1 h61
                    show u_P L xs m d m_X12_escaped 304 [(8, .int (x2 * (x3 - (f_X12_hourOf x7 S)))), (0, .ref 100), (1, .int x1), (2, .int x2), (3, .int x3), (4, .int x4), (5, .int x5), (6, .int x6), (7, .int x7)] [] S R _
                    refine u_st rfl (fun _ => rfl) ?_
                    refine u_st rfl (fun _ => rfl) ?_
                    show u_P L xs m d m_X12_escaped 307 [(8, .int (x2 * (x3 - (f_X12_hourOf x7 S)))), (0, .ref 100), (1, .int x1), (2, .int x2), (3, .int x3), (4, .int x4), (5, .int x5), (6, .int x6), (7, .int x7)] [.ref 100, .int x5] S R _
                    refine u_getr rfl v_tyM rfl ?_
                    refine u_st rfl (fun _ => rfl) ?_
                    show u_P L xs m d m_X12_escaped 312 [(8, .int (x2 * (x3 - (f_X12_hourOf x7 S)))), (0, .ref 100), (1, .int x1), (2, .int x2), (3, .int x3), (4, .int x4), (5, .int x5), (6, .int x6), (7, .int x7)] [.int x7, .ref 170, .int x5] S R _
                    refine u_ialdE (v := S 169 x7.toInt.toNat) rfl rfl rfl (fun b621 b622 => ?_)
                    have hD := hD b621 b622
                    show u_P L xs m d m_X12_escaped 313 [(8, .int (x2 * (x3 - (f_X12_hourOf x7 S)))), (0, .ref 100), (1, .int x1), (2, .int x2), (3, .int x3), (4, .int x4), (5, .int x5), (6, .int x6), (7, .int x7)] [.int (S 169 x7.toInt.toNat), .int x5] S R _
                    refine u_st rfl (fun _ => rfl) ?_
                    refine u_st rfl (fun _ => rfl) ?_
                    show u_P L xs m d m_X12_escaped 316 [(8, .int (x2 * (x3 - (f_X12_hourOf x7 S)))), (0, .ref 100), (1, .int x1), (2, .int x2), (3, .int x3), (4, .int x4), (5, .int x5), (6, .int x6), (7, .int x7)] [.int ((S 169 x7.toInt.toNat) - (x2 * (x3 - (f_X12_hourOf x7 S)))), .int x5] S R _
                    refine u_cs (ac := [.int x5, .int ((S 169 x7.toInt.toNat) - (x2 * (x3 - (f_X12_hourOf x7 S))))]) (rest := []) rfl (by decide) mt_X12_higher (fun _ => rfl) (Nat.le_of_ble_eq_true rfl) (Nat.le_of_ble_eq_true rfl) (fun d' => c_X12_higher L xs m d' x5 ((S 169 x7.toInt.toNat) - (x2 * (x3 - (f_X12_hourOf x7 S)))) S R) ?_
                    rintro _ _ _ ⟨_, rfl, rfl, rfl, rfl⟩
                    refine u_st rfl (fun _ => rfl) ?_
                    refine u_st rfl (fun _ => rfl) ?_
                    refine u_st rfl (fun _ => rfl) ?_
                    show u_P L xs m d m_X12_escaped 324 [(5, .int (f_X12_higher x5 ((S 169 x7.toInt.toNat) - (x2 * (x3 - (f_X12_hourOf x7 S)))))), (8, .int (x2 * (x3 - (f_X12_hourOf x7 S)))), (0, .ref 100), (1, .int x1), (2, .int x2), (3, .int x3), (4, .int x4), (6, .int x6), (7, .int x7)] [.ref 100, .int x6] S R _
                    refine u_getr rfl v_tyM rfl ?_
                    refine u_st rfl (fun _ => rfl) ?_
                    show u_P L xs m d m_X12_escaped 329 [(5, .int (f_X12_higher x5 ((S 169 x7.toInt.toNat) - (x2 * (x3 - (f_X12_hourOf x7 S)))))), (8, .int (x2 * (x3 - (f_X12_hourOf x7 S)))), (0, .ref 100), (1, .int x1), (2, .int x2), (3, .int x3), (4, .int x4), (6, .int x6), (7, .int x7)] [.int x7, .ref 171, .int x6] S R _
                    refine u_ialdE (v := S 170 x7.toInt.toNat) rfl rfl rfl (fun b631 b632 => ?_)
                    have hD := hD b631 b632
                    show u_P L xs m d m_X12_escaped 330 [(5, .int (f_X12_higher x5 ((S 169 x7.toInt.toNat) - (x2 * (x3 - (f_X12_hourOf x7 S)))))), (8, .int (x2 * (x3 - (f_X12_hourOf x7 S)))), (0, .ref 100), (1, .int x1), (2, .int x2), (3, .int x3), (4, .int x4), (6, .int x6), (7, .int x7)] [.int (S 170 x7.toInt.toNat), .int x6] S R _
                    refine u_st rfl (fun _ => rfl) ?_
                    refine u_st rfl (fun _ => rfl) ?_
                    show u_P L xs m d m_X12_escaped 333 [(5, .int (f_X12_higher x5 ((S 169 x7.toInt.toNat) - (x2 * (x3 - (f_X12_hourOf x7 S)))))), (8, .int (x2 * (x3 - (f_X12_hourOf x7 S)))), (0, .ref 100), (1, .int x1), (2, .int x2), (3, .int x3), (4, .int x4), (6, .int x6), (7, .int x7)] [.int ((S 170 x7.toInt.toNat) + (x2 * (x3 - (f_X12_hourOf x7 S)))), .int x6] S R _
                    refine u_cs (ac := [.int x6, .int ((S 170 x7.toInt.toNat) + (x2 * (x3 - (f_X12_hourOf x7 S))))]) (rest := []) rfl (by decide) mt_X12_lower (fun _ => rfl) (Nat.le_of_ble_eq_true rfl) (Nat.le_of_ble_eq_true rfl) (fun d' => c_X12_lower L xs m d' x6 ((S 170 x7.toInt.toNat) + (x2 * (x3 - (f_X12_hourOf x7 S)))) S R) ?_
                    rintro _ _ _ ⟨_, rfl, rfl, rfl, rfl⟩
                    refine u_st rfl (fun _ => rfl) ?_
                    refine u_st rfl (fun _ => rfl) ?_
                    refine u_st rfl (fun _ => rfl) ?_
                    refine u_lc (b := [(0, .ref 100), (1, .int x1), (2, .int x2), (3, .int x3), (4, .int x4), (5, .int (f_X12_higher x5 ((S 169 x7.toInt.toNat) - (x2 * (x3 - (f_X12_hourOf x7 S)))))), (6, .int (f_X12_lower x6 ((S 170 x7.toInt.toNat) + (x2 * (x3 - (f_X12_hourOf x7 S)))))), (7, .int (x7 + (Int32.ofInt 1))), (8, .int (x2 * (x3 - (f_X12_hourOf x7 S))))]) (show ([7, 6, 5, 8, 0, 1, 2, 3, 4] : List Nat).Nodup by decide) (show ([0, 1, 2, 3, 4, 5, 6, 7, 8] : List Nat).Nodup by decide) (fun i => match i with | 0 => rfl | 1 => rfl | 2 => rfl | 3 => rfl | 4 => rfl | 5 => rfl | 6 => rfl | 7 => rfl | 8 => rfl | _ + 9 => rfl) ?_
                    exact (ih m hm).2.2 d (x2 * (x3 - (f_X12_hourOf x7 S))) x1 x2 x3 x4 (f_X12_higher x5 ((S 169 x7.toInt.toNat) - (x2 * (x3 - (f_X12_hourOf x7 S))))) (f_X12_lower x6 ((S 170 x7.toInt.toNat) + (x2 * (x3 - (f_X12_hourOf x7 S))))) (x7 + (Int32.ofInt 1)) S hD
                  · have hD := hD.2 h61
                    show u_P L xs m d m_X12_escaped 292 [(8, .int (x2 * (x3 - (f_X12_hourOf x7 S)))), (0, .ref 100), (1, .int x1), (2, .int x2), (3, .int x3), (4, .int x4), (5, .int x5), (6, .int x6), (7, .int x7)] [] S R _
                    refine u_st rfl (fun _ => rfl) ?_
                    refine u_st rfl (fun _ => rfl) ?_
                    refine u_st rfl (fun _ => rfl) ?_
                    refine u_st rfl (fun _ => rfl) ?_
                    show u_P L xs m d m_X12_escaped 297 [(8, .int (x2 * (x3 - (f_X12_hourOf x7 S)))), (0, .ref 100), (1, .int x1), (2, .int x2), (3, .int x3), (4, .int x4), (5, .int x5), (6, .int x6), (7, .int x7)] [.int (x7 - (Int32.ofInt 1)), .ref 100] S R _
                    refine u_cv (rest := []) rfl (by decide) mt_X12_hourOf v_tyM rfl rfl rfl (Nat.le_of_ble_eq_true rfl) (Nat.le_of_ble_eq_true rfl) (Nat.le_of_ble_eq_true rfl) (fun d' => c_X12_hourOf L xs m d' (x7 - (Int32.ofInt 1)) S R) ?_
                    rintro _ _ _ ⟨_, rfl, rfl, rfl, rfl⟩
                    refine u_st rfl (fun _ => rfl) ?_
                    show u_P L xs m d m_X12_escaped 301 [(8, .int (x2 * (x3 - (f_X12_hourOf x7 S)))), (0, .ref 100), (1, .int x1), (2, .int x2), (3, .int x3), (4, .int x4), (5, .int x5), (6, .int x6), (7, .int x7)] [.int x3, .int (f_X12_hourOf (x7 - (Int32.ofInt 1)) S)] S R _
                    refine u_ic_gt rfl (fun h64 => ?_) (fun h64 => ?_)
                    · have hD := hD.1 h64
                      show u_P L xs m d m_X12_escaped 338 [(8, .int (x2 * (x3 - (f_X12_hourOf x7 S)))), (0, .ref 100), (1, .int x1), (2, .int x2), (3, .int x3), (4, .int x4), (5, .int x5), (6, .int x6), (7, .int x7)] [] S R _
                      refine u_st rfl (fun _ => rfl) ?_
                      refine u_st rfl (fun _ => rfl) ?_
                      refine u_lc (b := [(0, .ref 100), (1, .int x1), (2, .int x2), (3, .int x3), (4, .int x4), (5, .int x5), (6, .int x6), (7, .int (x7 + (Int32.ofInt 1))), (8, .int (x2 * (x3 - (f_X12_hourOf x7 S))))]) (show ([7, 8, 0, 1, 2, 3, 4, 5, 6] : List Nat).Nodup by decide) (show ([0, 1, 2, 3, 4, 5, 6, 7, 8] : List Nat).Nodup by decide) (fun i => match i with | 0 => rfl | 1 => rfl | 2 => rfl | 3 => rfl | 4 => rfl | 5 => rfl | 6 => rfl | 7 => rfl | 8 => rfl | _ + 9 => rfl) ?_
                      exact (ih m hm).2.2 d (x2 * (x3 - (f_X12_hourOf x7 S))) x1 x2 x3 x4 x5 x6 (x7 + (Int32.ofInt 1)) S hD
                    · have hD := hD.2 h64
                      show u_P L xs m d m_X12_escaped 304 [(8, .int (x2 * (x3 - (f_X12_hourOf x7 S)))), (0, .ref 100), (1, .int x1), (2, .int x2), (3, .int x3), (4, .int x4), (5, .int x5), (6, .int x6), (7, .int x7)] [] S R _
                      refine u_st rfl (fun _ => rfl) ?_
                      refine u_st rfl (fun _ => rfl) ?_
                      show u_P L xs m d m_X12_escaped 307 [(8, .int (x2 * (x3 - (f_X12_hourOf x7 S)))), (0, .ref 100), (1, .int x1), (2, .int x2), (3, .int x3), (4, .int x4), (5, .int x5), (6, .int x6), (7, .int x7)] [.ref 100, .int x5] S R _
                      refine u_getr rfl v_tyM rfl ?_
                      refine u_st rfl (fun _ => rfl) ?_
                      show u_P L xs m d m_X12_escaped 312 [(8, .int (x2 * (x3 - (f_X12_hourOf x7 S)))), (0, .ref 100), (1, .int x1), (2, .int x2), (3, .int x3), (4, .int x4), (5, .int x5), (6, .int x6), (7, .int x7)] [.int x7, .ref 170, .int x5] S R _
                      refine u_ialdE (v := S 169 x7.toInt.toNat) rfl rfl rfl (fun b651 b652 => ?_)
                      have hD := hD b651 b652
                      show u_P L xs m d m_X12_escaped 313 [(8, .int (x2 * (x3 - (f_X12_hourOf x7 S)))), (0, .ref 100), (1, .int x1), (2, .int x2), (3, .int x3), (4, .int x4), (5, .int x5), (6, .int x6), (7, .int x7)] [.int (S 169 x7.toInt.toNat), .int x5] S R _
                      refine u_st rfl (fun _ => rfl) ?_
                      refine u_st rfl (fun _ => rfl) ?_
                      show u_P L xs m d m_X12_escaped 316 [(8, .int (x2 * (x3 - (f_X12_hourOf x7 S)))), (0, .ref 100), (1, .int x1), (2, .int x2), (3, .int x3), (4, .int x4), (5, .int x5), (6, .int x6), (7, .int x7)] [.int ((S 169 x7.toInt.toNat) - (x2 * (x3 - (f_X12_hourOf x7 S)))), .int x5] S R _
                      refine u_cs (ac := [.int x5, .int ((S 169 x7.toInt.toNat) - (x2 * (x3 - (f_X12_hourOf x7 S))))]) (rest := []) rfl (by decide) mt_X12_higher (fun _ => rfl) (Nat.le_of_ble_eq_true rfl) (Nat.le_of_ble_eq_true rfl) (fun d' => c_X12_higher L xs m d' x5 ((S 169 x7.toInt.toNat) - (x2 * (x3 - (f_X12_hourOf x7 S)))) S R) ?_
                      rintro _ _ _ ⟨_, rfl, rfl, rfl, rfl⟩
                      refine u_st rfl (fun _ => rfl) ?_
                      refine u_st rfl (fun _ => rfl) ?_
                      refine u_st rfl (fun _ => rfl) ?_
                      show u_P L xs m d m_X12_escaped 324 [(5, .int (f_X12_higher x5 ((S 169 x7.toInt.toNat) - (x2 * (x3 - (f_X12_hourOf x7 S)))))), (8, .int (x2 * (x3 - (f_X12_hourOf x7 S)))), (0, .ref 100), (1, .int x1), (2, .int x2), (3, .int x3), (4, .int x4), (6, .int x6), (7, .int x7)] [.ref 100, .int x6] S R _
                      refine u_getr rfl v_tyM rfl ?_
                      refine u_st rfl (fun _ => rfl) ?_
                      show u_P L xs m d m_X12_escaped 329 [(5, .int (f_X12_higher x5 ((S 169 x7.toInt.toNat) - (x2 * (x3 - (f_X12_hourOf x7 S)))))), (8, .int (x2 * (x3 - (f_X12_hourOf x7 S)))), (0, .ref 100), (1, .int x1), (2, .int x2), (3, .int x3), (4, .int x4), (6, .int x6), (7, .int x7)] [.int x7, .ref 171, .int x6] S R _
                      refine u_ialdE (v := S 170 x7.toInt.toNat) rfl rfl rfl (fun b661 b662 => ?_)
                      have hD := hD b661 b662
                      show u_P L xs m d m_X12_escaped 330 [(5, .int (f_X12_higher x5 ((S 169 x7.toInt.toNat) - (x2 * (x3 - (f_X12_hourOf x7 S)))))), (8, .int (x2 * (x3 - (f_X12_hourOf x7 S)))), (0, .ref 100), (1, .int x1), (2, .int x2), (3, .int x3), (4, .int x4), (6, .int x6), (7, .int x7)] [.int (S 170 x7.toInt.toNat), .int x6] S R _
                      refine u_st rfl (fun _ => rfl) ?_
                      refine u_st rfl (fun _ => rfl) ?_
                      show u_P L xs m d m_X12_escaped 333 [(5, .int (f_X12_higher x5 ((S 169 x7.toInt.toNat) - (x2 * (x3 - (f_X12_hourOf x7 S)))))), (8, .int (x2 * (x3 - (f_X12_hourOf x7 S)))), (0, .ref 100), (1, .int x1), (2, .int x2), (3, .int x3), (4, .int x4), (6, .int x6), (7, .int x7)] [.int ((S 170 x7.toInt.toNat) + (x2 * (x3 - (f_X12_hourOf x7 S)))), .int x6] S R _
                      refine u_cs (ac := [.int x6, .int ((S 170 x7.toInt.toNat) + (x2 * (x3 - (f_X12_hourOf x7 S))))]) (rest := []) rfl (by decide) mt_X12_lower (fun _ => rfl) (Nat.le_of_ble_eq_true rfl) (Nat.le_of_ble_eq_true rfl) (fun d' => c_X12_lower L xs m d' x6 ((S 170 x7.toInt.toNat) + (x2 * (x3 - (f_X12_hourOf x7 S)))) S R) ?_
                      rintro _ _ _ ⟨_, rfl, rfl, rfl, rfl⟩
                      refine u_st rfl (fun _ => rfl) ?_
                      refine u_st rfl (fun _ => rfl) ?_
                      refine u_st rfl (fun _ => rfl) ?_
                      refine u_lc (b := [(0, .ref 100), (1, .int x1), (2, .int x2), (3, .int x3), (4, .int x4), (5, .int (f_X12_higher x5 ((S 169 x7.toInt.toNat) - (x2 * (x3 - (f_X12_hourOf x7 S)))))), (6, .int (f_X12_lower x6 ((S 170 x7.toInt.toNat) + (x2 * (x3 - (f_X12_hourOf x7 S)))))), (7, .int (x7 + (Int32.ofInt 1))), (8, .int (x2 * (x3 - (f_X12_hourOf x7 S))))]) (show ([7, 6, 5, 8, 0, 1, 2, 3, 4] : List Nat).Nodup by decide) (show ([0, 1, 2, 3, 4, 5, 6, 7, 8] : List Nat).Nodup by decide) (fun i => match i with | 0 => rfl | 1 => rfl | 2 => rfl | 3 => rfl | 4 => rfl | 5 => rfl | 6 => rfl | 7 => rfl | 8 => rfl | _ + 9 => rfl) ?_
                      exact (ih m hm).2.2 d (x2 * (x3 - (f_X12_hourOf x7 S))) x1 x2 x3 x4 (f_X12_higher x5 ((S 169 x7.toInt.toNat) - (x2 * (x3 - (f_X12_hourOf x7 S))))) (f_X12_lower x6 ((S 170 x7.toInt.toNat) + (x2 * (x3 - (f_X12_hourOf x7 S))))) (x7 + (Int32.ofInt 1)) S hD
              · have hD := hD.2 h59
                show u_P L xs m d m_X12_escaped 243 [(8, .int (x2 * (x3 - (f_X12_hourOf x7 S)))), (0, .ref 100), (1, .int x1), (2, .int x2), (3, .int x3), (4, .int x4), (5, .int x5), (6, .int x6), (7, .int x7)] [] S R _
                refine u_st rfl (fun _ => rfl) ?_
                refine u_st rfl (fun _ => rfl) ?_
                show u_P L xs m d m_X12_escaped 246 [(8, .int (x2 * (x3 - (f_X12_hourOf x7 S)))), (0, .ref 100), (1, .int x1), (2, .int x2), (3, .int x3), (4, .int x4), (5, .int x5), (6, .int x6), (7, .int x7)] [.ref 100, .int x5] S R _
                refine u_getr rfl v_tyM rfl ?_
                refine u_st rfl (fun _ => rfl) ?_
                show u_P L xs m d m_X12_escaped 251 [(8, .int (x2 * (x3 - (f_X12_hourOf x7 S)))), (0, .ref 100), (1, .int x1), (2, .int x2), (3, .int x3), (4, .int x4), (5, .int x5), (6, .int x6), (7, .int x7)] [.int x7, .ref 168, .int x5] S R _
                refine u_ialdE (v := S 167 x7.toInt.toNat) rfl rfl rfl (fun b671 b672 => ?_)
                have hD := hD b671 b672
                show u_P L xs m d m_X12_escaped 252 [(8, .int (x2 * (x3 - (f_X12_hourOf x7 S)))), (0, .ref 100), (1, .int x1), (2, .int x2), (3, .int x3), (4, .int x4), (5, .int x5), (6, .int x6), (7, .int x7)] [.int (S 167 x7.toInt.toNat), .int x5] S R _
                refine u_st rfl (fun _ => rfl) ?_
                refine u_st rfl (fun _ => rfl) ?_
                show u_P L xs m d m_X12_escaped 255 [(8, .int (x2 * (x3 - (f_X12_hourOf x7 S)))), (0, .ref 100), (1, .int x1), (2, .int x2), (3, .int x3), (4, .int x4), (5, .int x5), (6, .int x6), (7, .int x7)] [.int ((S 167 x7.toInt.toNat) - (x2 * (x3 - (f_X12_hourOf x7 S)))), .int x5] S R _
                refine u_cs (ac := [.int x5, .int ((S 167 x7.toInt.toNat) - (x2 * (x3 - (f_X12_hourOf x7 S))))]) (rest := []) rfl (by decide) mt_X12_higher (fun _ => rfl) (Nat.le_of_ble_eq_true rfl) (Nat.le_of_ble_eq_true rfl) (fun d' => c_X12_higher L xs m d' x5 ((S 167 x7.toInt.toNat) - (x2 * (x3 - (f_X12_hourOf x7 S)))) S R) ?_
                rintro _ _ _ ⟨_, rfl, rfl, rfl, rfl⟩
                refine u_st rfl (fun _ => rfl) ?_
                refine u_st rfl (fun _ => rfl) ?_
                refine u_st rfl (fun _ => rfl) ?_
                show u_P L xs m d m_X12_escaped 263 [(5, .int (f_X12_higher x5 ((S 167 x7.toInt.toNat) - (x2 * (x3 - (f_X12_hourOf x7 S)))))), (8, .int (x2 * (x3 - (f_X12_hourOf x7 S)))), (0, .ref 100), (1, .int x1), (2, .int x2), (3, .int x3), (4, .int x4), (6, .int x6), (7, .int x7)] [.ref 100, .int x6] S R _
                refine u_getr rfl v_tyM rfl ?_
                refine u_st rfl (fun _ => rfl) ?_
                show u_P L xs m d m_X12_escaped 268 [(5, .int (f_X12_higher x5 ((S 167 x7.toInt.toNat) - (x2 * (x3 - (f_X12_hourOf x7 S)))))), (8, .int (x2 * (x3 - (f_X12_hourOf x7 S)))), (0, .ref 100), (1, .int x1), (2, .int x2), (3, .int x3), (4, .int x4), (6, .int x6), (7, .int x7)] [.int x7, .ref 169, .int x6] S R _
                refine u_ialdE (v := S 168 x7.toInt.toNat) rfl rfl rfl (fun b681 b682 => ?_)
                have hD := hD b681 b682
                show u_P L xs m d m_X12_escaped 269 [(5, .int (f_X12_higher x5 ((S 167 x7.toInt.toNat) - (x2 * (x3 - (f_X12_hourOf x7 S)))))), (8, .int (x2 * (x3 - (f_X12_hourOf x7 S)))), (0, .ref 100), (1, .int x1), (2, .int x2), (3, .int x3), (4, .int x4), (6, .int x6), (7, .int x7)] [.int (S 168 x7.toInt.toNat), .int x6] S R _
                refine u_st rfl (fun _ => rfl) ?_
                refine u_st rfl (fun _ => rfl) ?_
                show u_P L xs m d m_X12_escaped 272 [(5, .int (f_X12_higher x5 ((S 167 x7.toInt.toNat) - (x2 * (x3 - (f_X12_hourOf x7 S)))))), (8, .int (x2 * (x3 - (f_X12_hourOf x7 S)))), (0, .ref 100), (1, .int x1), (2, .int x2), (3, .int x3), (4, .int x4), (6, .int x6), (7, .int x7)] [.int ((S 168 x7.toInt.toNat) + (x2 * (x3 - (f_X12_hourOf x7 S)))), .int x6] S R _
                refine u_cs (ac := [.int x6, .int ((S 168 x7.toInt.toNat) + (x2 * (x3 - (f_X12_hourOf x7 S))))]) (rest := []) rfl (by decide) mt_X12_lower (fun _ => rfl) (Nat.le_of_ble_eq_true rfl) (Nat.le_of_ble_eq_true rfl) (fun d' => c_X12_lower L xs m d' x6 ((S 168 x7.toInt.toNat) + (x2 * (x3 - (f_X12_hourOf x7 S)))) S R) ?_
                rintro _ _ _ ⟨_, rfl, rfl, rfl, rfl⟩
                refine u_st rfl (fun _ => rfl) ?_
                refine u_st rfl (fun _ => rfl) ?_
                refine u_st rfl (fun _ => rfl) ?_
                show u_P L xs m d m_X12_escaped 280 [(6, .int (f_X12_lower x6 ((S 168 x7.toInt.toNat) + (x2 * (x3 - (f_X12_hourOf x7 S)))))), (5, .int (f_X12_higher x5 ((S 167 x7.toInt.toNat) - (x2 * (x3 - (f_X12_hourOf x7 S)))))), (8, .int (x2 * (x3 - (f_X12_hourOf x7 S)))), (0, .ref 100), (1, .int x1), (2, .int x2), (3, .int x3), (4, .int x4), (7, .int x7)] [.int x7, .ref 100] S R _
                refine u_cv (rest := []) rfl (by decide) mt_X12_hourOf v_tyM rfl rfl rfl (Nat.le_of_ble_eq_true rfl) (Nat.le_of_ble_eq_true rfl) (Nat.le_of_ble_eq_true rfl) (fun d' => c_X12_hourOf L xs m d' x7 S R) ?_
                rintro _ _ _ ⟨_, rfl, rfl, rfl, rfl⟩
                refine u_st rfl (fun _ => rfl) ?_
                show u_P L xs m d m_X12_escaped 284 [(6, .int (f_X12_lower x6 ((S 168 x7.toInt.toNat) + (x2 * (x3 - (f_X12_hourOf x7 S)))))), (5, .int (f_X12_higher x5 ((S 167 x7.toInt.toNat) - (x2 * (x3 - (f_X12_hourOf x7 S)))))), (8, .int (x2 * (x3 - (f_X12_hourOf x7 S)))), (0, .ref 100), (1, .int x1), (2, .int x2), (3, .int x3), (4, .int x4), (7, .int x7)] [.int x3, .int (f_X12_hourOf x7 S)] S R _
                refine u_ic_le rfl (fun h69 => ?_) (fun h69 => ?_)
                · have hD := hD.1 h69
                  show u_P L xs m d m_X12_escaped 338 [(6, .int (f_X12_lower x6 ((S 168 x7.toInt.toNat) + (x2 * (x3 - (f_X12_hourOf x7 S)))))), (5, .int (f_X12_higher x5 ((S 167 x7.toInt.toNat) - (x2 * (x3 - (f_X12_hourOf x7 S)))))), (8, .int (x2 * (x3 - (f_X12_hourOf x7 S)))), (0, .ref 100), (1, .int x1), (2, .int x2), (3, .int x3), (4, .int x4), (7, .int x7)] [] S R _
                  refine u_st rfl (fun _ => rfl) ?_
                  refine u_st rfl (fun _ => rfl) ?_
                  refine u_lc (b := [(0, .ref 100), (1, .int x1), (2, .int x2), (3, .int x3), (4, .int x4), (5, .int (f_X12_higher x5 ((S 167 x7.toInt.toNat) - (x2 * (x3 - (f_X12_hourOf x7 S)))))), (6, .int (f_X12_lower x6 ((S 168 x7.toInt.toNat) + (x2 * (x3 - (f_X12_hourOf x7 S)))))), (7, .int (x7 + (Int32.ofInt 1))), (8, .int (x2 * (x3 - (f_X12_hourOf x7 S))))]) (show ([7, 6, 5, 8, 0, 1, 2, 3, 4] : List Nat).Nodup by decide) (show ([0, 1, 2, 3, 4, 5, 6, 7, 8] : List Nat).Nodup by decide) (fun i => match i with | 0 => rfl | 1 => rfl | 2 => rfl | 3 => rfl | 4 => rfl | 5 => rfl | 6 => rfl | 7 => rfl | 8 => rfl | _ + 9 => rfl) ?_
                  exact (ih m hm).2.2 d (x2 * (x3 - (f_X12_hourOf x7 S))) x1 x2 x3 x4 (f_X12_higher x5 ((S 167 x7.toInt.toNat) - (x2 * (x3 - (f_X12_hourOf x7 S))))) (f_X12_lower x6 ((S 168 x7.toInt.toNat) + (x2 * (x3 - (f_X12_hourOf x7 S))))) (x7 + (Int32.ofInt 1)) S hD
                · have hD := hD.2 h69
                  show u_P L xs m d m_X12_escaped 287 [(6, .int (f_X12_lower x6 ((S 168 x7.toInt.toNat) + (x2 * (x3 - (f_X12_hourOf x7 S)))))), (5, .int (f_X12_higher x5 ((S 167 x7.toInt.toNat) - (x2 * (x3 - (f_X12_hourOf x7 S)))))), (8, .int (x2 * (x3 - (f_X12_hourOf x7 S)))), (0, .ref 100), (1, .int x1), (2, .int x2), (3, .int x3), (4, .int x4), (7, .int x7)] [] S R _
                  refine u_st rfl (fun _ => rfl) ?_
                  show u_P L xs m d m_X12_escaped 289 [(6, .int (f_X12_lower x6 ((S 168 x7.toInt.toNat) + (x2 * (x3 - (f_X12_hourOf x7 S)))))), (5, .int (f_X12_higher x5 ((S 167 x7.toInt.toNat) - (x2 * (x3 - (f_X12_hourOf x7 S)))))), (8, .int (x2 * (x3 - (f_X12_hourOf x7 S)))), (0, .ref 100), (1, .int x1), (2, .int x2), (3, .int x3), (4, .int x4), (7, .int x7)] [.int x7] S R _
                  refine u_if_eq rfl (fun h70 => ?_) (fun h70 => ?_)
                  · have hD := hD.1 h70
                    show u_P L xs m d m_X12_escaped 304 [(6, .int (f_X12_lower x6 ((S 168 x7.toInt.toNat) + (x2 * (x3 - (f_X12_hourOf x7 S)))))), (5, .int (f_X12_higher x5 ((S 167 x7.toInt.toNat) - (x2 * (x3 - (f_X12_hourOf x7 S)))))), (8, .int (x2 * (x3 - (f_X12_hourOf x7 S)))), (0, .ref 100), (1, .int x1), (2, .int x2), (3, .int x3), (4, .int x4), (7, .int x7)] [] S R _
                    refine u_st rfl (fun _ => rfl) ?_
                    refine u_st rfl (fun _ => rfl) ?_
                    show u_P L xs m d m_X12_escaped 307 [(6, .int (f_X12_lower x6 ((S 168 x7.toInt.toNat) + (x2 * (x3 - (f_X12_hourOf x7 S)))))), (5, .int (f_X12_higher x5 ((S 167 x7.toInt.toNat) - (x2 * (x3 - (f_X12_hourOf x7 S)))))), (8, .int (x2 * (x3 - (f_X12_hourOf x7 S)))), (0, .ref 100), (1, .int x1), (2, .int x2), (3, .int x3), (4, .int x4), (7, .int x7)] [.ref 100, .int (f_X12_higher x5 ((S 167 x7.toInt.toNat) - (x2 * (x3 - (f_X12_hourOf x7 S)))))] S R _
                    refine u_getr rfl v_tyM rfl ?_
                    refine u_st rfl (fun _ => rfl) ?_
                    show u_P L xs m d m_X12_escaped 312 [(6, .int (f_X12_lower x6 ((S 168 x7.toInt.toNat) + (x2 * (x3 - (f_X12_hourOf x7 S)))))), (5, .int (f_X12_higher x5 ((S 167 x7.toInt.toNat) - (x2 * (x3 - (f_X12_hourOf x7 S)))))), (8, .int (x2 * (x3 - (f_X12_hourOf x7 S)))), (0, .ref 100), (1, .int x1), (2, .int x2), (3, .int x3), (4, .int x4), (7, .int x7)] [.int x7, .ref 170, .int (f_X12_higher x5 ((S 167 x7.toInt.toNat) - (x2 * (x3 - (f_X12_hourOf x7 S)))))] S R _
                    refine u_ialdE (v := S 169 x7.toInt.toNat) rfl rfl rfl (fun b711 b712 => ?_)
                    have hD := hD b711 b712
                    show u_P L xs m d m_X12_escaped 313 [(6, .int (f_X12_lower x6 ((S 168 x7.toInt.toNat) + (x2 * (x3 - (f_X12_hourOf x7 S)))))), (5, .int (f_X12_higher x5 ((S 167 x7.toInt.toNat) - (x2 * (x3 - (f_X12_hourOf x7 S)))))), (8, .int (x2 * (x3 - (f_X12_hourOf x7 S)))), (0, .ref 100), (1, .int x1), (2, .int x2), (3, .int x3), (4, .int x4), (7, .int x7)] [.int (S 169 x7.toInt.toNat), .int (f_X12_higher x5 ((S 167 x7.toInt.toNat) - (x2 * (x3 - (f_X12_hourOf x7 S)))))] S R _
                    refine u_st rfl (fun _ => rfl) ?_
                    refine u_st rfl (fun _ => rfl) ?_
                    show u_P L xs m d m_X12_escaped 316 [(6, .int (f_X12_lower x6 ((S 168 x7.toInt.toNat) + (x2 * (x3 - (f_X12_hourOf x7 S)))))), (5, .int (f_X12_higher x5 ((S 167 x7.toInt.toNat) - (x2 * (x3 - (f_X12_hourOf x7 S)))))), (8, .int (x2 * (x3 - (f_X12_hourOf x7 S)))), (0, .ref 100), (1, .int x1), (2, .int x2), (3, .int x3), (4, .int x4), (7, .int x7)] [.int ((S 169 x7.toInt.toNat) - (x2 * (x3 - (f_X12_hourOf x7 S)))), .int (f_X12_higher x5 ((S 167 x7.toInt.toNat) - (x2 * (x3 - (f_X12_hourOf x7 S)))))] S R _
                    refine u_cs (ac := [.int (f_X12_higher x5 ((S 167 x7.toInt.toNat) - (x2 * (x3 - (f_X12_hourOf x7 S))))), .int ((S 169 x7.toInt.toNat) - (x2 * (x3 - (f_X12_hourOf x7 S))))]) (rest := []) rfl (by decide) mt_X12_higher (fun _ => rfl) (Nat.le_of_ble_eq_true rfl) (Nat.le_of_ble_eq_true rfl) (fun d' => c_X12_higher L xs m d' (f_X12_higher x5 ((S 167 x7.toInt.toNat) - (x2 * (x3 - (f_X12_hourOf x7 S))))) ((S 169 x7.toInt.toNat) - (x2 * (x3 - (f_X12_hourOf x7 S)))) S R) ?_
                    rintro _ _ _ ⟨_, rfl, rfl, rfl, rfl⟩
                    refine u_st rfl (fun _ => rfl) ?_
                    refine u_st rfl (fun _ => rfl) ?_
                    refine u_st rfl (fun _ => rfl) ?_
                    show u_P L xs m d m_X12_escaped 324 [(5, .int (f_X12_higher (f_X12_higher x5 ((S 167 x7.toInt.toNat) - (x2 * (x3 - (f_X12_hourOf x7 S))))) ((S 169 x7.toInt.toNat) - (x2 * (x3 - (f_X12_hourOf x7 S)))))), (6, .int (f_X12_lower x6 ((S 168 x7.toInt.toNat) + (x2 * (x3 - (f_X12_hourOf x7 S)))))), (8, .int (x2 * (x3 - (f_X12_hourOf x7 S)))), (0, .ref 100), (1, .int x1), (2, .int x2), (3, .int x3), (4, .int x4), (7, .int x7)] [.ref 100, .int (f_X12_lower x6 ((S 168 x7.toInt.toNat) + (x2 * (x3 - (f_X12_hourOf x7 S)))))] S R _
                    refine u_getr rfl v_tyM rfl ?_
                    refine u_st rfl (fun _ => rfl) ?_
                    show u_P L xs m d m_X12_escaped 329 [(5, .int (f_X12_higher (f_X12_higher x5 ((S 167 x7.toInt.toNat) - (x2 * (x3 - (f_X12_hourOf x7 S))))) ((S 169 x7.toInt.toNat) - (x2 * (x3 - (f_X12_hourOf x7 S)))))), (6, .int (f_X12_lower x6 ((S 168 x7.toInt.toNat) + (x2 * (x3 - (f_X12_hourOf x7 S)))))), (8, .int (x2 * (x3 - (f_X12_hourOf x7 S)))), (0, .ref 100), (1, .int x1), (2, .int x2), (3, .int x3), (4, .int x4), (7, .int x7)] [.int x7, .ref 171, .int (f_X12_lower x6 ((S 168 x7.toInt.toNat) + (x2 * (x3 - (f_X12_hourOf x7 S)))))] S R _
                    refine u_ialdE (v := S 170 x7.toInt.toNat) rfl rfl rfl (fun b721 b722 => ?_)
                    have hD := hD b721 b722
                    show u_P L xs m d m_X12_escaped 330 [(5, .int (f_X12_higher (f_X12_higher x5 ((S 167 x7.toInt.toNat) - (x2 * (x3 - (f_X12_hourOf x7 S))))) ((S 169 x7.toInt.toNat) - (x2 * (x3 - (f_X12_hourOf x7 S)))))), (6, .int (f_X12_lower x6 ((S 168 x7.toInt.toNat) + (x2 * (x3 - (f_X12_hourOf x7 S)))))), (8, .int (x2 * (x3 - (f_X12_hourOf x7 S)))), (0, .ref 100), (1, .int x1), (2, .int x2), (3, .int x3), (4, .int x4), (7, .int x7)] [.int (S 170 x7.toInt.toNat), .int (f_X12_lower x6 ((S 168 x7.toInt.toNat) + (x2 * (x3 - (f_X12_hourOf x7 S)))))] S R _
                    refine u_st rfl (fun _ => rfl) ?_
                    refine u_st rfl (fun _ => rfl) ?_
                    show u_P L xs m d m_X12_escaped 333 [(5, .int (f_X12_higher (f_X12_higher x5 ((S 167 x7.toInt.toNat) - (x2 * (x3 - (f_X12_hourOf x7 S))))) ((S 169 x7.toInt.toNat) - (x2 * (x3 - (f_X12_hourOf x7 S)))))), (6, .int (f_X12_lower x6 ((S 168 x7.toInt.toNat) + (x2 * (x3 - (f_X12_hourOf x7 S)))))), (8, .int (x2 * (x3 - (f_X12_hourOf x7 S)))), (0, .ref 100), (1, .int x1), (2, .int x2), (3, .int x3), (4, .int x4), (7, .int x7)] [.int ((S 170 x7.toInt.toNat) + (x2 * (x3 - (f_X12_hourOf x7 S)))), .int (f_X12_lower x6 ((S 168 x7.toInt.toNat) + (x2 * (x3 - (f_X12_hourOf x7 S)))))] S R _
                    refine u_cs (ac := [.int (f_X12_lower x6 ((S 168 x7.toInt.toNat) + (x2 * (x3 - (f_X12_hourOf x7 S))))), .int ((S 170 x7.toInt.toNat) + (x2 * (x3 - (f_X12_hourOf x7 S))))]) (rest := []) rfl (by decide) mt_X12_lower (fun _ => rfl) (Nat.le_of_ble_eq_true rfl) (Nat.le_of_ble_eq_true rfl) (fun d' => c_X12_lower L xs m d' (f_X12_lower x6 ((S 168 x7.toInt.toNat) + (x2 * (x3 - (f_X12_hourOf x7 S))))) ((S 170 x7.toInt.toNat) + (x2 * (x3 - (f_X12_hourOf x7 S)))) S R) ?_
                    rintro _ _ _ ⟨_, rfl, rfl, rfl, rfl⟩
                    refine u_st rfl (fun _ => rfl) ?_
                    refine u_st rfl (fun _ => rfl) ?_
                    refine u_st rfl (fun _ => rfl) ?_
                    refine u_lc (b := [(0, .ref 100), (1, .int x1), (2, .int x2), (3, .int x3), (4, .int x4), (5, .int (f_X12_higher (f_X12_higher x5 ((S 167 x7.toInt.toNat) - (x2 * (x3 - (f_X12_hourOf x7 S))))) ((S 169 x7.toInt.toNat) - (x2 * (x3 - (f_X12_hourOf x7 S)))))), (6, .int (f_X12_lower (f_X12_lower x6 ((S 168 x7.toInt.toNat) + (x2 * (x3 - (f_X12_hourOf x7 S))))) ((S 170 x7.toInt.toNat) + (x2 * (x3 - (f_X12_hourOf x7 S)))))), (7, .int (x7 + (Int32.ofInt 1))), (8, .int (x2 * (x3 - (f_X12_hourOf x7 S))))]) (show ([7, 6, 5, 8, 0, 1, 2, 3, 4] : List Nat).Nodup by decide) (show ([0, 1, 2, 3, 4, 5, 6, 7, 8] : List Nat).Nodup by decide) (fun i => match i with | 0 => rfl | 1 => rfl | 2 => rfl | 3 => rfl | 4 => rfl | 5 => rfl | 6 => rfl | 7 => rfl | 8 => rfl | _ + 9 => rfl) ?_
                    exact (ih m hm).2.2 d (x2 * (x3 - (f_X12_hourOf x7 S))) x1 x2 x3 x4 (f_X12_higher (f_X12_higher x5 ((S 167 x7.toInt.toNat) - (x2 * (x3 - (f_X12_hourOf x7 S))))) ((S 169 x7.toInt.toNat) - (x2 * (x3 - (f_X12_hourOf x7 S))))) (f_X12_lower (f_X12_lower x6 ((S 168 x7.toInt.toNat) + (x2 * (x3 - (f_X12_hourOf x7 S))))) ((S 170 x7.toInt.toNat) + (x2 * (x3 - (f_X12_hourOf x7 S))))) (x7 + (Int32.ofInt 1)) S hD
                  · have hD := hD.2 h70
                    show u_P L xs m d m_X12_escaped 292 [(6, .int (f_X12_lower x6 ((S 168 x7.toInt.toNat) + (x2 * (x3 - (f_X12_hourOf x7 S)))))), (5, .int (f_X12_higher x5 ((S 167 x7.toInt.toNat) - (x2 * (x3 - (f_X12_hourOf x7 S)))))), (8, .int (x2 * (x3 - (f_X12_hourOf x7 S)))), (0, .ref 100), (1, .int x1), (2, .int x2), (3, .int x3), (4, .int x4), (7, .int x7)] [] S R _
                    refine u_st rfl (fun _ => rfl) ?_
                    refine u_st rfl (fun _ => rfl) ?_
                    refine u_st rfl (fun _ => rfl) ?_
                    refine u_st rfl (fun _ => rfl) ?_
                    show u_P L xs m d m_X12_escaped 297 [(6, .int (f_X12_lower x6 ((S 168 x7.toInt.toNat) + (x2 * (x3 - (f_X12_hourOf x7 S)))))), (5, .int (f_X12_higher x5 ((S 167 x7.toInt.toNat) - (x2 * (x3 - (f_X12_hourOf x7 S)))))), (8, .int (x2 * (x3 - (f_X12_hourOf x7 S)))), (0, .ref 100), (1, .int x1), (2, .int x2), (3, .int x3), (4, .int x4), (7, .int x7)] [.int (x7 - (Int32.ofInt 1)), .ref 100] S R _
                    refine u_cv (rest := []) rfl (by decide) mt_X12_hourOf v_tyM rfl rfl rfl (Nat.le_of_ble_eq_true rfl) (Nat.le_of_ble_eq_true rfl) (Nat.le_of_ble_eq_true rfl) (fun d' => c_X12_hourOf L xs m d' (x7 - (Int32.ofInt 1)) S R) ?_
                    rintro _ _ _ ⟨_, rfl, rfl, rfl, rfl⟩
                    refine u_st rfl (fun _ => rfl) ?_
                    show u_P L xs m d m_X12_escaped 301 [(6, .int (f_X12_lower x6 ((S 168 x7.toInt.toNat) + (x2 * (x3 - (f_X12_hourOf x7 S)))))), (5, .int (f_X12_higher x5 ((S 167 x7.toInt.toNat) - (x2 * (x3 - (f_X12_hourOf x7 S)))))), (8, .int (x2 * (x3 - (f_X12_hourOf x7 S)))), (0, .ref 100), (1, .int x1), (2, .int x2), (3, .int x3), (4, .int x4), (7, .int x7)] [.int x3, .int (f_X12_hourOf (x7 - (Int32.ofInt 1)) S)] S R _
                    refine u_ic_gt rfl (fun h73 => ?_) (fun h73 => ?_)
                    · have hD := hD.1 h73
                      show u_P L xs m d m_X12_escaped 338 [(6, .int (f_X12_lower x6 ((S 168 x7.toInt.toNat) + (x2 * (x3 - (f_X12_hourOf x7 S)))))), (5, .int (f_X12_higher x5 ((S 167 x7.toInt.toNat) - (x2 * (x3 - (f_X12_hourOf x7 S)))))), (8, .int (x2 * (x3 - (f_X12_hourOf x7 S)))), (0, .ref 100), (1, .int x1), (2, .int x2), (3, .int x3), (4, .int x4), (7, .int x7)] [] S R _
                      refine u_st rfl (fun _ => rfl) ?_
                      refine u_st rfl (fun _ => rfl) ?_
                      refine u_lc (b := [(0, .ref 100), (1, .int x1), (2, .int x2), (3, .int x3), (4, .int x4), (5, .int (f_X12_higher x5 ((S 167 x7.toInt.toNat) - (x2 * (x3 - (f_X12_hourOf x7 S)))))), (6, .int (f_X12_lower x6 ((S 168 x7.toInt.toNat) + (x2 * (x3 - (f_X12_hourOf x7 S)))))), (7, .int (x7 + (Int32.ofInt 1))), (8, .int (x2 * (x3 - (f_X12_hourOf x7 S))))]) (show ([7, 6, 5, 8, 0, 1, 2, 3, 4] : List Nat).Nodup by decide) (show ([0, 1, 2, 3, 4, 5, 6, 7, 8] : List Nat).Nodup by decide) (fun i => match i with | 0 => rfl | 1 => rfl | 2 => rfl | 3 => rfl | 4 => rfl | 5 => rfl | 6 => rfl | 7 => rfl | 8 => rfl | _ + 9 => rfl) ?_
                      exact (ih m hm).2.2 d (x2 * (x3 - (f_X12_hourOf x7 S))) x1 x2 x3 x4 (f_X12_higher x5 ((S 167 x7.toInt.toNat) - (x2 * (x3 - (f_X12_hourOf x7 S))))) (f_X12_lower x6 ((S 168 x7.toInt.toNat) + (x2 * (x3 - (f_X12_hourOf x7 S))))) (x7 + (Int32.ofInt 1)) S hD
                    · have hD := hD.2 h73
                      show u_P L xs m d m_X12_escaped 304 [(6, .int (f_X12_lower x6 ((S 168 x7.toInt.toNat) + (x2 * (x3 - (f_X12_hourOf x7 S)))))), (5, .int (f_X12_higher x5 ((S 167 x7.toInt.toNat) - (x2 * (x3 - (f_X12_hourOf x7 S)))))), (8, .int (x2 * (x3 - (f_X12_hourOf x7 S)))), (0, .ref 100), (1, .int x1), (2, .int x2), (3, .int x3), (4, .int x4), (7, .int x7)] [] S R _
                      refine u_st rfl (fun _ => rfl) ?_
                      refine u_st rfl (fun _ => rfl) ?_
                      show u_P L xs m d m_X12_escaped 307 [(6, .int (f_X12_lower x6 ((S 168 x7.toInt.toNat) + (x2 * (x3 - (f_X12_hourOf x7 S)))))), (5, .int (f_X12_higher x5 ((S 167 x7.toInt.toNat) - (x2 * (x3 - (f_X12_hourOf x7 S)))))), (8, .int (x2 * (x3 - (f_X12_hourOf x7 S)))), (0, .ref 100), (1, .int x1), (2, .int x2), (3, .int x3), (4, .int x4), (7, .int x7)] [.ref 100, .int (f_X12_higher x5 ((S 167 x7.toInt.toNat) - (x2 * (x3 - (f_X12_hourOf x7 S)))))] S R _
                      refine u_getr rfl v_tyM rfl ?_
                      refine u_st rfl (fun _ => rfl) ?_
                      show u_P L xs m d m_X12_escaped 312 [(6, .int (f_X12_lower x6 ((S 168 x7.toInt.toNat) + (x2 * (x3 - (f_X12_hourOf x7 S)))))), (5, .int (f_X12_higher x5 ((S 167 x7.toInt.toNat) - (x2 * (x3 - (f_X12_hourOf x7 S)))))), (8, .int (x2 * (x3 - (f_X12_hourOf x7 S)))), (0, .ref 100), (1, .int x1), (2, .int x2), (3, .int x3), (4, .int x4), (7, .int x7)] [.int x7, .ref 170, .int (f_X12_higher x5 ((S 167 x7.toInt.toNat) - (x2 * (x3 - (f_X12_hourOf x7 S)))))] S R _
                      refine u_ialdE (v := S 169 x7.toInt.toNat) rfl rfl rfl (fun b741 b742 => ?_)
                      have hD := hD b741 b742
                      show u_P L xs m d m_X12_escaped 313 [(6, .int (f_X12_lower x6 ((S 168 x7.toInt.toNat) + (x2 * (x3 - (f_X12_hourOf x7 S)))))), (5, .int (f_X12_higher x5 ((S 167 x7.toInt.toNat) - (x2 * (x3 - (f_X12_hourOf x7 S)))))), (8, .int (x2 * (x3 - (f_X12_hourOf x7 S)))), (0, .ref 100), (1, .int x1), (2, .int x2), (3, .int x3), (4, .int x4), (7, .int x7)] [.int (S 169 x7.toInt.toNat), .int (f_X12_higher x5 ((S 167 x7.toInt.toNat) - (x2 * (x3 - (f_X12_hourOf x7 S)))))] S R _
                      refine u_st rfl (fun _ => rfl) ?_
                      refine u_st rfl (fun _ => rfl) ?_
                      show u_P L xs m d m_X12_escaped 316 [(6, .int (f_X12_lower x6 ((S 168 x7.toInt.toNat) + (x2 * (x3 - (f_X12_hourOf x7 S)))))), (5, .int (f_X12_higher x5 ((S 167 x7.toInt.toNat) - (x2 * (x3 - (f_X12_hourOf x7 S)))))), (8, .int (x2 * (x3 - (f_X12_hourOf x7 S)))), (0, .ref 100), (1, .int x1), (2, .int x2), (3, .int x3), (4, .int x4), (7, .int x7)] [.int ((S 169 x7.toInt.toNat) - (x2 * (x3 - (f_X12_hourOf x7 S)))), .int (f_X12_higher x5 ((S 167 x7.toInt.toNat) - (x2 * (x3 - (f_X12_hourOf x7 S)))))] S R _
                      refine u_cs (ac := [.int (f_X12_higher x5 ((S 167 x7.toInt.toNat) - (x2 * (x3 - (f_X12_hourOf x7 S))))), .int ((S 169 x7.toInt.toNat) - (x2 * (x3 - (f_X12_hourOf x7 S))))]) (rest := []) rfl (by decide) mt_X12_higher (fun _ => rfl) (Nat.le_of_ble_eq_true rfl) (Nat.le_of_ble_eq_true rfl) (fun d' => c_X12_higher L xs m d' (f_X12_higher x5 ((S 167 x7.toInt.toNat) - (x2 * (x3 - (f_X12_hourOf x7 S))))) ((S 169 x7.toInt.toNat) - (x2 * (x3 - (f_X12_hourOf x7 S)))) S R) ?_
                      rintro _ _ _ ⟨_, rfl, rfl, rfl, rfl⟩
                      refine u_st rfl (fun _ => rfl) ?_
                      refine u_st rfl (fun _ => rfl) ?_
                      refine u_st rfl (fun _ => rfl) ?_
                      show u_P L xs m d m_X12_escaped 324 [(5, .int (f_X12_higher (f_X12_higher x5 ((S 167 x7.toInt.toNat) - (x2 * (x3 - (f_X12_hourOf x7 S))))) ((S 169 x7.toInt.toNat) - (x2 * (x3 - (f_X12_hourOf x7 S)))))), (6, .int (f_X12_lower x6 ((S 168 x7.toInt.toNat) + (x2 * (x3 - (f_X12_hourOf x7 S)))))), (8, .int (x2 * (x3 - (f_X12_hourOf x7 S)))), (0, .ref 100), (1, .int x1), (2, .int x2), (3, .int x3), (4, .int x4), (7, .int x7)] [.ref 100, .int (f_X12_lower x6 ((S 168 x7.toInt.toNat) + (x2 * (x3 - (f_X12_hourOf x7 S)))))] S R _
                      refine u_getr rfl v_tyM rfl ?_
                      refine u_st rfl (fun _ => rfl) ?_
                      show u_P L xs m d m_X12_escaped 329 [(5, .int (f_X12_higher (f_X12_higher x5 ((S 167 x7.toInt.toNat) - (x2 * (x3 - (f_X12_hourOf x7 S))))) ((S 169 x7.toInt.toNat) - (x2 * (x3 - (f_X12_hourOf x7 S)))))), (6, .int (f_X12_lower x6 ((S 168 x7.toInt.toNat) + (x2 * (x3 - (f_X12_hourOf x7 S)))))), (8, .int (x2 * (x3 - (f_X12_hourOf x7 S)))), (0, .ref 100), (1, .int x1), (2, .int x2), (3, .int x3), (4, .int x4), (7, .int x7)] [.int x7, .ref 171, .int (f_X12_lower x6 ((S 168 x7.toInt.toNat) + (x2 * (x3 - (f_X12_hourOf x7 S)))))] S R _
                      refine u_ialdE (v := S 170 x7.toInt.toNat) rfl rfl rfl (fun b751 b752 => ?_)
                      have hD := hD b751 b752
                      show u_P L xs m d m_X12_escaped 330 [(5, .int (f_X12_higher (f_X12_higher x5 ((S 167 x7.toInt.toNat) - (x2 * (x3 - (f_X12_hourOf x7 S))))) ((S 169 x7.toInt.toNat) - (x2 * (x3 - (f_X12_hourOf x7 S)))))), (6, .int (f_X12_lower x6 ((S 168 x7.toInt.toNat) + (x2 * (x3 - (f_X12_hourOf x7 S)))))), (8, .int (x2 * (x3 - (f_X12_hourOf x7 S)))), (0, .ref 100), (1, .int x1), (2, .int x2), (3, .int x3), (4, .int x4), (7, .int x7)] [.int (S 170 x7.toInt.toNat), .int (f_X12_lower x6 ((S 168 x7.toInt.toNat) + (x2 * (x3 - (f_X12_hourOf x7 S)))))] S R _
                      refine u_st rfl (fun _ => rfl) ?_
                      refine u_st rfl (fun _ => rfl) ?_
                      show u_P L xs m d m_X12_escaped 333 [(5, .int (f_X12_higher (f_X12_higher x5 ((S 167 x7.toInt.toNat) - (x2 * (x3 - (f_X12_hourOf x7 S))))) ((S 169 x7.toInt.toNat) - (x2 * (x3 - (f_X12_hourOf x7 S)))))), (6, .int (f_X12_lower x6 ((S 168 x7.toInt.toNat) + (x2 * (x3 - (f_X12_hourOf x7 S)))))), (8, .int (x2 * (x3 - (f_X12_hourOf x7 S)))), (0, .ref 100), (1, .int x1), (2, .int x2), (3, .int x3), (4, .int x4), (7, .int x7)] [.int ((S 170 x7.toInt.toNat) + (x2 * (x3 - (f_X12_hourOf x7 S)))), .int (f_X12_lower x6 ((S 168 x7.toInt.toNat) + (x2 * (x3 - (f_X12_hourOf x7 S)))))] S R _
                      refine u_cs (ac := [.int (f_X12_lower x6 ((S 168 x7.toInt.toNat) + (x2 * (x3 - (f_X12_hourOf x7 S))))), .int ((S 170 x7.toInt.toNat) + (x2 * (x3 - (f_X12_hourOf x7 S))))]) (rest := []) rfl (by decide) mt_X12_lower (fun _ => rfl) (Nat.le_of_ble_eq_true rfl) (Nat.le_of_ble_eq_true rfl) (fun d' => c_X12_lower L xs m d' (f_X12_lower x6 ((S 168 x7.toInt.toNat) + (x2 * (x3 - (f_X12_hourOf x7 S))))) ((S 170 x7.toInt.toNat) + (x2 * (x3 - (f_X12_hourOf x7 S)))) S R) ?_
                      rintro _ _ _ ⟨_, rfl, rfl, rfl, rfl⟩
                      refine u_st rfl (fun _ => rfl) ?_
                      refine u_st rfl (fun _ => rfl) ?_
                      refine u_st rfl (fun _ => rfl) ?_
                      refine u_lc (b := [(0, .ref 100), (1, .int x1), (2, .int x2), (3, .int x3), (4, .int x4), (5, .int (f_X12_higher (f_X12_higher x5 ((S 167 x7.toInt.toNat) - (x2 * (x3 - (f_X12_hourOf x7 S))))) ((S 169 x7.toInt.toNat) - (x2 * (x3 - (f_X12_hourOf x7 S)))))), (6, .int (f_X12_lower (f_X12_lower x6 ((S 168 x7.toInt.toNat) + (x2 * (x3 - (f_X12_hourOf x7 S))))) ((S 170 x7.toInt.toNat) + (x2 * (x3 - (f_X12_hourOf x7 S)))))), (7, .int (x7 + (Int32.ofInt 1))), (8, .int (x2 * (x3 - (f_X12_hourOf x7 S))))]) (show ([7, 6, 5, 8, 0, 1, 2, 3, 4] : List Nat).Nodup by decide) (show ([0, 1, 2, 3, 4, 5, 6, 7, 8] : List Nat).Nodup by decide) (fun i => match i with | 0 => rfl | 1 => rfl | 2 => rfl | 3 => rfl | 4 => rfl | 5 => rfl | 6 => rfl | 7 => rfl | 8 => rfl | _ + 9 => rfl) ?_
                      exact (ih m hm).2.2 d (x2 * (x3 - (f_X12_hourOf x7 S))) x1 x2 x3 x4 (f_X12_higher (f_X12_higher x5 ((S 167 x7.toInt.toNat) - (x2 * (x3 - (f_X12_hourOf x7 S))))) ((S 169 x7.toInt.toNat) - (x2 * (x3 - (f_X12_hourOf x7 S))))) (f_X12_lower (f_X12_lower x6 ((S 168 x7.toInt.toNat) + (x2 * (x3 - (f_X12_hourOf x7 S))))) ((S 170 x7.toInt.toNat) + (x2 * (x3 - (f_X12_hourOf x7 S))))) (x7 + (Int32.ofInt 1)) S hD
set_option maxRecDepth 4000 in
theorem w_X12_escaped (L : Nat) (xs : Nat → Int32) {R : v_Rf} (a : Int32) (b : Int32) (i : Int32) (j : Int32) (H69 : Int32 → Int32 → Int32 → Int32 → Int32 → v_Sf → Prop) (H174 : Int32 → Int32 → Int32 → Int32 → Int32 → Int32 → Int32 → v_Sf → Prop) (K : Int32 → v_Sf → Prop) (k69 : ∀ (x1 : Int32) (x2 : Int32) (x3 : Int32) (x4 : Int32) (x5 : Int32) (S : v_Sf), H69 x1 x2 x3 x4 x5 S → D_X12_escaped_69 H69 H174 K x1 x2 x3 x4 x5 S) (k174 : ∀ (x1 : Int32) (x2 : Int32) (x3 : Int32) (x4 : Int32) (x5 : Int32) (x6 : Int32) (x7 : Int32) (S : v_Sf), H174 x1 x2 x3 x4 x5 x6 x7 S → D_X12_escaped_174 H69 H174 K x1 x2 x3 x4 x5 x6 x7 S) (n d : Nat) (S : v_Sf) (hD : D_X12_escaped a b i j H69 H174 K S) : u_P L xs n d m_X12_escaped 0 (lv_args 0 [.ref 100, .int a, .int b, .int i, .int j]) [] S R (z_Q R K) := by
  unfold D_X12_escaped at hD
  show u_P L xs n d m_X12_escaped 0 [(0, .ref 100), (1, .int a), (2, .int b), (3, .int i), (4, .int j)] [] S R _
  refine u_st rfl (fun _ => rfl) ?_
  refine u_st rfl (fun _ => rfl) ?_
  refine u_st rfl (fun _ => rfl) ?_
  refine u_st rfl (fun _ => rfl) ?_
  show u_P L xs n d m_X12_escaped 6 [(0, .ref 100), (1, .int a), (2, .int b), (3, .int i), (4, .int j)] [.long (Int64.ofInt 8), .long (Int64.ofNat 1), .long a.toInt64] S R _
  refine u_cs (ac := [.long a.toInt64, .long (Int64.ofNat 1), .long (Int64.ofInt 8)]) (rest := []) rfl (by decide) mt_X12_lies (fun _ => rfl) (Nat.le_of_ble_eq_true rfl) (Nat.le_of_ble_eq_true rfl) (fun d' => z_liesC L xs n d' a (Int64.ofNat 1) (Int64.ofInt 8) (lo := 1) (hi := 8) rfl rfl S R) ?_
  rintro _ _ _ ⟨_, rfl, rfl, rfl, rfl⟩
  show u_P L xs n d m_X12_escaped 9 [(0, .ref 100), (1, .int a), (2, .int b), (3, .int i), (4, .int j)] [.int (z_in a 1 8)] S R _
  refine u_if_eq rfl (fun h1 => ?_) (fun h1 => ?_)
  · have hD := hD.1 h1
    show u_P L xs n d m_X12_escaped 59 [(0, .ref 100), (1, .int a), (2, .int b), (3, .int i), (4, .int j)] [] S R _
    refine u_st rfl (fun _ => rfl) ?_
    show u_P L xs n d m_X12_escaped 60 [(0, .ref 100), (1, .int a), (2, .int b), (3, .int i), (4, .int j)] [.int (Int32.ofInt (-1))] S R _
    exact u_ret rfl rfl ⟨_, rfl, rfl, hD⟩
  · have hD := hD.2 h1
    show u_P L xs n d m_X12_escaped 12 [(0, .ref 100), (1, .int a), (2, .int b), (3, .int i), (4, .int j)] [] S R _
    refine u_st rfl (fun _ => rfl) ?_
    refine u_st rfl (fun _ => rfl) ?_
    refine u_st rfl (fun _ => rfl) ?_
    refine u_st rfl (fun _ => rfl) ?_
    show u_P L xs n d m_X12_escaped 18 [(0, .ref 100), (1, .int a), (2, .int b), (3, .int i), (4, .int j)] [.long (Int64.ofInt 99), .long (Int64.ofNat 0), .long b.toInt64] S R _
    refine u_cs (ac := [.long b.toInt64, .long (Int64.ofNat 0), .long (Int64.ofInt 99)]) (rest := []) rfl (by decide) mt_X12_lies (fun _ => rfl) (Nat.le_of_ble_eq_true rfl) (Nat.le_of_ble_eq_true rfl) (fun d' => z_liesC L xs n d' b (Int64.ofNat 0) (Int64.ofInt 99) (lo := 0) (hi := 99) rfl rfl S R) ?_
    rintro _ _ _ ⟨_, rfl, rfl, rfl, rfl⟩
    show u_P L xs n d m_X12_escaped 21 [(0, .ref 100), (1, .int a), (2, .int b), (3, .int i), (4, .int j)] [.int (z_in b 0 99)] S R _
    refine u_if_eq rfl (fun h2 => ?_) (fun h2 => ?_)
    · have hD := hD.1 h2
      show u_P L xs n d m_X12_escaped 59 [(0, .ref 100), (1, .int a), (2, .int b), (3, .int i), (4, .int j)] [] S R _
      refine u_st rfl (fun _ => rfl) ?_
      show u_P L xs n d m_X12_escaped 60 [(0, .ref 100), (1, .int a), (2, .int b), (3, .int i), (4, .int j)] [.int (Int32.ofInt (-1))] S R _
      exact u_ret rfl rfl ⟨_, rfl, rfl, hD⟩
    · have hD := hD.2 h2
      show u_P L xs n d m_X12_escaped 24 [(0, .ref 100), (1, .int a), (2, .int b), (3, .int i), (4, .int j)] [] S R _
      refine u_st rfl (fun _ => rfl) ?_
      refine u_st rfl (fun _ => rfl) ?_
      refine u_st rfl (fun _ => rfl) ?_
      refine u_st rfl (fun _ => rfl) ?_
      show u_P L xs n d m_X12_escaped 30 [(0, .ref 100), (1, .int a), (2, .int b), (3, .int i), (4, .int j)] [.long (Int64.ofInt 255), .long (Int64.ofNat 0), .long i.toInt64] S R _
      refine u_cs (ac := [.long i.toInt64, .long (Int64.ofNat 0), .long (Int64.ofInt 255)]) (rest := []) rfl (by decide) mt_X12_lies (fun _ => rfl) (Nat.le_of_ble_eq_true rfl) (Nat.le_of_ble_eq_true rfl) (fun d' => z_liesC L xs n d' i (Int64.ofNat 0) (Int64.ofInt 255) (lo := 0) (hi := 255) rfl rfl S R) ?_
      rintro _ _ _ ⟨_, rfl, rfl, rfl, rfl⟩
      show u_P L xs n d m_X12_escaped 33 [(0, .ref 100), (1, .int a), (2, .int b), (3, .int i), (4, .int j)] [.int (z_in i 0 255)] S R _
      refine u_if_eq rfl (fun h3 => ?_) (fun h3 => ?_)
      · have hD := hD.1 h3
        show u_P L xs n d m_X12_escaped 59 [(0, .ref 100), (1, .int a), (2, .int b), (3, .int i), (4, .int j)] [] S R _
        refine u_st rfl (fun _ => rfl) ?_
        show u_P L xs n d m_X12_escaped 60 [(0, .ref 100), (1, .int a), (2, .int b), (3, .int i), (4, .int j)] [.int (Int32.ofInt (-1))] S R _
        exact u_ret rfl rfl ⟨_, rfl, rfl, hD⟩
      · have hD := hD.2 h3
        show u_P L xs n d m_X12_escaped 36 [(0, .ref 100), (1, .int a), (2, .int b), (3, .int i), (4, .int j)] [] S R _
        refine u_st rfl (fun _ => rfl) ?_
        refine u_st rfl (fun _ => rfl) ?_
        refine u_st rfl (fun _ => rfl) ?_
        refine u_st rfl (fun _ => rfl) ?_
        show u_P L xs n d m_X12_escaped 43 [(0, .ref 100), (1, .int a), (2, .int b), (3, .int i), (4, .int j)] [.long (Int64.ofInt 99), .long (Int64.ofNat 0), .long j.toInt64] S R _
        refine u_cs (ac := [.long j.toInt64, .long (Int64.ofNat 0), .long (Int64.ofInt 99)]) (rest := []) rfl (by decide) mt_X12_lies (fun _ => rfl) (Nat.le_of_ble_eq_true rfl) (Nat.le_of_ble_eq_true rfl) (fun d' => z_liesC L xs n d' j (Int64.ofNat 0) (Int64.ofInt 99) (lo := 0) (hi := 99) rfl rfl S R) ?_
        rintro _ _ _ ⟨_, rfl, rfl, rfl, rfl⟩
        show u_P L xs n d m_X12_escaped 46 [(0, .ref 100), (1, .int a), (2, .int b), (3, .int i), (4, .int j)] [.int (z_in j 0 99)] S R _
        refine u_if_eq rfl (fun h4 => ?_) (fun h4 => ?_)
        · have hD := hD.1 h4
          show u_P L xs n d m_X12_escaped 59 [(0, .ref 100), (1, .int a), (2, .int b), (3, .int i), (4, .int j)] [] S R _
          refine u_st rfl (fun _ => rfl) ?_
          show u_P L xs n d m_X12_escaped 60 [(0, .ref 100), (1, .int a), (2, .int b), (3, .int i), (4, .int j)] [.int (Int32.ofInt (-1))] S R _
          exact u_ret rfl rfl ⟨_, rfl, rfl, hD⟩
        · have hD := hD.2 h4
          show u_P L xs n d m_X12_escaped 49 [(0, .ref 100), (1, .int a), (2, .int b), (3, .int i), (4, .int j)] [] S R _
          refine u_st rfl (fun _ => rfl) ?_
          refine u_st rfl (fun _ => rfl) ?_
          refine u_st rfl (fun _ => rfl) ?_
          refine u_st rfl (fun _ => rfl) ?_
          show u_P L xs n d m_X12_escaped 53 [(0, .ref 100), (1, .int a), (2, .int b), (3, .int i), (4, .int j)] [.ref 100, .int ((Int32.ofInt 3) * a)] S R _
          refine u_getE (v := S 99 1) rfl v_tyM rfl rfl ?_
          show u_P L xs n d m_X12_escaped 56 [(0, .ref 100), (1, .int a), (2, .int b), (3, .int i), (4, .int j)] [.int (S 99 1), .int ((Int32.ofInt 3) * a)] S R _
          refine u_ic_le rfl (fun h5 => ?_) (fun h5 => ?_)
          · have hD := hD.1 h5
            show u_P L xs n d m_X12_escaped 61 [(0, .ref 100), (1, .int a), (2, .int b), (3, .int i), (4, .int j)] [] S R _
            refine u_st rfl (fun _ => rfl) ?_
            refine u_st rfl (fun _ => rfl) ?_
            show u_P L xs n d m_X12_escaped 63 [(0, .ref 100), (1, .int a), (2, .int b), (3, .int i), (4, .int j)] [.int (Int32.ofInt 0), .ref 100] S R _
            refine u_put rfl v_tyM rfl ?_
            refine u_st rfl (fun _ => rfl) ?_
            refine u_st rfl (fun _ => rfl) ?_
            refine u_lc (b := [(0, .ref 100), (1, .int a), (2, .int b), (3, .int i), (4, .int j), (5, .int (Int32.ofInt 0))]) (show ([5, 0, 1, 2, 3, 4] : List Nat).Nodup by decide) (show ([0, 1, 2, 3, 4, 5] : List Nat).Nodup by decide) (fun i => match i with | 0 => rfl | 1 => rfl | 2 => rfl | 3 => rfl | 4 => rfl | 5 => rfl | _ + 6 => rfl) ?_
            exact (hd_X12_escaped L xs a b i j H69 H174 K k69 k174 n).1 d a b i j (Int32.ofInt 0) (z_s S 99 1 (Int32.ofInt 0)) hD
          · have hD := hD.2 h5
            show u_P L xs n d m_X12_escaped 59 [(0, .ref 100), (1, .int a), (2, .int b), (3, .int i), (4, .int j)] [] S R _
            refine u_st rfl (fun _ => rfl) ?_
            show u_P L xs n d m_X12_escaped 60 [(0, .ref 100), (1, .int a), (2, .int b), (3, .int i), (4, .int j)] [.int (Int32.ofInt (-1))] S R _
            exact u_ret rfl rfl ⟨_, rfl, rfl, hD⟩
noncomputable def r_X12_escaped_174 (x1 : Int32) (x2 : Int32) (x3 : Int32) (x4 : Int32) : Nat → Nat → Int32 → Int32 → v_Sf → Int32 × v_Sf
  | 0, k174, x5, x6, S => (if ¬ x4 = 0 then (if ¬ x4 = (Int32.ofInt 1) then (((x6 - x5) + x4) / x4, S) else (x6, S)) else (x5, S))
  | r + 1, k174, x5, x6, S => (if x3 ≤ (f_X12_hourOf (z_i k174) S) then (if x3 < (f_X12_hourOf (z_i k174) S) then (if (f_X12_hourOf (z_i k174) S) ≤ x3 then r_X12_escaped_174 x1 x2 x3 x4 r (k174 + 1) x5 x6 S else (if (z_i k174) = 0 then r_X12_escaped_174 x1 x2 x3 x4 r (k174 + 1) (f_X12_higher x5 ((S 169 (z_i k174).toInt.toNat) - (x2 * ((f_X12_hourOf (z_i k174) S) - x3)))) (f_X12_lower x6 ((S 170 (z_i k174).toInt.toNat) + (x2 * ((f_X12_hourOf (z_i k174) S) - x3)))) S else (if x3 < (f_X12_hourOf ((z_i k174) - (Int32.ofInt 1)) S) then r_X12_escaped_174 x1 x2 x3 x4 r (k174 + 1) x5 x6 S else r_X12_escaped_174 x1 x2 x3 x4 r (k174 + 1) (f_X12_higher x5 ((S 169 (z_i k174).toInt.toNat) - (x2 * ((f_X12_hourOf (z_i k174) S) - x3)))) (f_X12_lower x6 ((S 170 (z_i k174).toInt.toNat) + (x2 * ((f_X12_hourOf (z_i k174) S) - x3)))) S))) else (if ((z_i k174) + (Int32.ofInt 1)) = x1 then (if (f_X12_hourOf (z_i k174) S) ≤ x3 then r_X12_escaped_174 x1 x2 x3 x4 r (k174 + 1) (f_X12_higher x5 ((S 167 (z_i k174).toInt.toNat) - (x2 * ((f_X12_hourOf (z_i k174) S) - x3)))) (f_X12_lower x6 ((S 168 (z_i k174).toInt.toNat) + (x2 * ((f_X12_hourOf (z_i k174) S) - x3)))) S else (if (z_i k174) = 0 then r_X12_escaped_174 x1 x2 x3 x4 r (k174 + 1) (f_X12_higher (f_X12_higher x5 ((S 167 (z_i k174).toInt.toNat) - (x2 * ((f_X12_hourOf (z_i k174) S) - x3)))) ((S 169 (z_i k174).toInt.toNat) - (x2 * ((f_X12_hourOf (z_i k174) S) - x3)))) (f_X12_lower (f_X12_lower x6 ((S 168 (z_i k174).toInt.toNat) + (x2 * ((f_X12_hourOf (z_i k174) S) - x3)))) ((S 170 (z_i k174).toInt.toNat) + (x2 * ((f_X12_hourOf (z_i k174) S) - x3)))) S else (if x3 < (f_X12_hourOf ((z_i k174) - (Int32.ofInt 1)) S) then r_X12_escaped_174 x1 x2 x3 x4 r (k174 + 1) (f_X12_higher x5 ((S 167 (z_i k174).toInt.toNat) - (x2 * ((f_X12_hourOf (z_i k174) S) - x3)))) (f_X12_lower x6 ((S 168 (z_i k174).toInt.toNat) + (x2 * ((f_X12_hourOf (z_i k174) S) - x3)))) S else r_X12_escaped_174 x1 x2 x3 x4 r (k174 + 1) (f_X12_higher (f_X12_higher x5 ((S 167 (z_i k174).toInt.toNat) - (x2 * ((f_X12_hourOf (z_i k174) S) - x3)))) ((S 169 (z_i k174).toInt.toNat) - (x2 * ((f_X12_hourOf (z_i k174) S) - x3)))) (f_X12_lower (f_X12_lower x6 ((S 168 (z_i k174).toInt.toNat) + (x2 * ((f_X12_hourOf (z_i k174) S) - x3)))) ((S 170 (z_i k174).toInt.toNat) + (x2 * ((f_X12_hourOf (z_i k174) S) - x3)))) S))) else (if (f_X12_hourOf ((z_i k174) + (Int32.ofInt 1)) S) ≤ x3 then (if (f_X12_hourOf (z_i k174) S) ≤ x3 then r_X12_escaped_174 x1 x2 x3 x4 r (k174 + 1) x5 x6 S else (if (z_i k174) = 0 then r_X12_escaped_174 x1 x2 x3 x4 r (k174 + 1) (f_X12_higher x5 ((S 169 (z_i k174).toInt.toNat) - (x2 * ((f_X12_hourOf (z_i k174) S) - x3)))) (f_X12_lower x6 ((S 170 (z_i k174).toInt.toNat) + (x2 * ((f_X12_hourOf (z_i k174) S) - x3)))) S else (if x3 < (f_X12_hourOf ((z_i k174) - (Int32.ofInt 1)) S) then r_X12_escaped_174 x1 x2 x3 x4 r (k174 + 1) x5 x6 S else r_X12_escaped_174 x1 x2 x3 x4 r (k174 + 1) (f_X12_higher x5 ((S 169 (z_i k174).toInt.toNat) - (x2 * ((f_X12_hourOf (z_i k174) S) - x3)))) (f_X12_lower x6 ((S 170 (z_i k174).toInt.toNat) + (x2 * ((f_X12_hourOf (z_i k174) S) - x3)))) S))) else (if (f_X12_hourOf (z_i k174) S) ≤ x3 then r_X12_escaped_174 x1 x2 x3 x4 r (k174 + 1) (f_X12_higher x5 ((S 167 (z_i k174).toInt.toNat) - (x2 * ((f_X12_hourOf (z_i k174) S) - x3)))) (f_X12_lower x6 ((S 168 (z_i k174).toInt.toNat) + (x2 * ((f_X12_hourOf (z_i k174) S) - x3)))) S else (if (z_i k174) = 0 then r_X12_escaped_174 x1 x2 x3 x4 r (k174 + 1) (f_X12_higher (f_X12_higher x5 ((S 167 (z_i k174).toInt.toNat) - (x2 * ((f_X12_hourOf (z_i k174) S) - x3)))) ((S 169 (z_i k174).toInt.toNat) - (x2 * ((f_X12_hourOf (z_i k174) S) - x3)))) (f_X12_lower (f_X12_lower x6 ((S 168 (z_i k174).toInt.toNat) + (x2 * ((f_X12_hourOf (z_i k174) S) - x3)))) ((S 170 (z_i k174).toInt.toNat) + (x2 * ((f_X12_hourOf (z_i k174) S) - x3)))) S else (if x3 < (f_X12_hourOf ((z_i k174) - (Int32.ofInt 1)) S) then r_X12_escaped_174 x1 x2 x3 x4 r (k174 + 1) (f_X12_higher x5 ((S 167 (z_i k174).toInt.toNat) - (x2 * ((f_X12_hourOf (z_i k174) S) - x3)))) (f_X12_lower x6 ((S 168 (z_i k174).toInt.toNat) + (x2 * ((f_X12_hourOf (z_i k174) S) - x3)))) S else r_X12_escaped_174 x1 x2 x3 x4 r (k174 + 1) (f_X12_higher (f_X12_higher x5 ((S 167 (z_i k174).toInt.toNat) - (x2 * ((f_X12_hourOf (z_i k174) S) - x3)))) ((S 169 (z_i k174).toInt.toNat) - (x2 * ((f_X12_hourOf (z_i k174) S) - x3)))) (f_X12_lower (f_X12_lower x6 ((S 168 (z_i k174).toInt.toNat) + (x2 * ((f_X12_hourOf (z_i k174) S) - x3)))) ((S 170 (z_i k174).toInt.toNat) + (x2 * ((f_X12_hourOf (z_i k174) S) - x3)))) S)))))) else (if x3 < (f_X12_hourOf (z_i k174) S) then (if (f_X12_hourOf (z_i k174) S) ≤ x3 then r_X12_escaped_174 x1 x2 x3 x4 r (k174 + 1) x5 x6 S else (if (z_i k174) = 0 then r_X12_escaped_174 x1 x2 x3 x4 r (k174 + 1) (f_X12_higher x5 ((S 169 (z_i k174).toInt.toNat) - (x2 * (x3 - (f_X12_hourOf (z_i k174) S))))) (f_X12_lower x6 ((S 170 (z_i k174).toInt.toNat) + (x2 * (x3 - (f_X12_hourOf (z_i k174) S))))) S else (if x3 < (f_X12_hourOf ((z_i k174) - (Int32.ofInt 1)) S) then r_X12_escaped_174 x1 x2 x3 x4 r (k174 + 1) x5 x6 S else r_X12_escaped_174 x1 x2 x3 x4 r (k174 + 1) (f_X12_higher x5 ((S 169 (z_i k174).toInt.toNat) - (x2 * (x3 - (f_X12_hourOf (z_i k174) S))))) (f_X12_lower x6 ((S 170 (z_i k174).toInt.toNat) + (x2 * (x3 - (f_X12_hourOf (z_i k174) S))))) S))) else (if ((z_i k174) + (Int32.ofInt 1)) = x1 then (if (f_X12_hourOf (z_i k174) S) ≤ x3 then r_X12_escaped_174 x1 x2 x3 x4 r (k174 + 1) (f_X12_higher x5 ((S 167 (z_i k174).toInt.toNat) - (x2 * (x3 - (f_X12_hourOf (z_i k174) S))))) (f_X12_lower x6 ((S 168 (z_i k174).toInt.toNat) + (x2 * (x3 - (f_X12_hourOf (z_i k174) S))))) S else (if (z_i k174) = 0 then r_X12_escaped_174 x1 x2 x3 x4 r (k174 + 1) (f_X12_higher (f_X12_higher x5 ((S 167 (z_i k174).toInt.toNat) - (x2 * (x3 - (f_X12_hourOf (z_i k174) S))))) ((S 169 (z_i k174).toInt.toNat) - (x2 * (x3 - (f_X12_hourOf (z_i k174) S))))) (f_X12_lower (f_X12_lower x6 ((S 168 (z_i k174).toInt.toNat) + (x2 * (x3 - (f_X12_hourOf (z_i k174) S))))) ((S 170 (z_i k174).toInt.toNat) + (x2 * (x3 - (f_X12_hourOf (z_i k174) S))))) S else (if x3 < (f_X12_hourOf ((z_i k174) - (Int32.ofInt 1)) S) then r_X12_escaped_174 x1 x2 x3 x4 r (k174 + 1) (f_X12_higher x5 ((S 167 (z_i k174).toInt.toNat) - (x2 * (x3 - (f_X12_hourOf (z_i k174) S))))) (f_X12_lower x6 ((S 168 (z_i k174).toInt.toNat) + (x2 * (x3 - (f_X12_hourOf (z_i k174) S))))) S else r_X12_escaped_174 x1 x2 x3 x4 r (k174 + 1) (f_X12_higher (f_X12_higher x5 ((S 167 (z_i k174).toInt.toNat) - (x2 * (x3 - (f_X12_hourOf (z_i k174) S))))) ((S 169 (z_i k174).toInt.toNat) - (x2 * (x3 - (f_X12_hourOf (z_i k174) S))))) (f_X12_lower (f_X12_lower x6 ((S 168 (z_i k174).toInt.toNat) + (x2 * (x3 - (f_X12_hourOf (z_i k174) S))))) ((S 170 (z_i k174).toInt.toNat) + (x2 * (x3 - (f_X12_hourOf (z_i k174) S))))) S))) else (if (f_X12_hourOf ((z_i k174) + (Int32.ofInt 1)) S) ≤ x3 then (if (f_X12_hourOf (z_i k174) S) ≤ x3 then r_X12_escaped_174 x1 x2 x3 x4 r (k174 + 1) x5 x6 S else (if (z_i k174) = 0 then r_X12_escaped_174 x1 x2 x3 x4 r (k174 + 1) (f_X12_higher x5 ((S 169 (z_i k174).toInt.toNat) - (x2 * (x3 - (f_X12_hourOf (z_i k174) S))))) (f_X12_lower x6 ((S 170 (z_i k174).toInt.toNat) + (x2 * (x3 - (f_X12_hourOf (z_i k174) S))))) S else (if x3 < (f_X12_hourOf ((z_i k174) - (Int32.ofInt 1)) S) then r_X12_escaped_174 x1 x2 x3 x4 r (k174 + 1) x5 x6 S else r_X12_escaped_174 x1 x2 x3 x4 r (k174 + 1) (f_X12_higher x5 ((S 169 (z_i k174).toInt.toNat) - (x2 * (x3 - (f_X12_hourOf (z_i k174) S))))) (f_X12_lower x6 ((S 170 (z_i k174).toInt.toNat) + (x2 * (x3 - (f_X12_hourOf (z_i k174) S))))) S))) else (if (f_X12_hourOf (z_i k174) S) ≤ x3 then r_X12_escaped_174 x1 x2 x3 x4 r (k174 + 1) (f_X12_higher x5 ((S 167 (z_i k174).toInt.toNat) - (x2 * (x3 - (f_X12_hourOf (z_i k174) S))))) (f_X12_lower x6 ((S 168 (z_i k174).toInt.toNat) + (x2 * (x3 - (f_X12_hourOf (z_i k174) S))))) S else (if (z_i k174) = 0 then r_X12_escaped_174 x1 x2 x3 x4 r (k174 + 1) (f_X12_higher (f_X12_higher x5 ((S 167 (z_i k174).toInt.toNat) - (x2 * (x3 - (f_X12_hourOf (z_i k174) S))))) ((S 169 (z_i k174).toInt.toNat) - (x2 * (x3 - (f_X12_hourOf (z_i k174) S))))) (f_X12_lower (f_X12_lower x6 ((S 168 (z_i k174).toInt.toNat) + (x2 * (x3 - (f_X12_hourOf (z_i k174) S))))) ((S 170 (z_i k174).toInt.toNat) + (x2 * (x3 - (f_X12_hourOf (z_i k174) S))))) S else (if x3 < (f_X12_hourOf ((z_i k174) - (Int32.ofInt 1)) S) then r_X12_escaped_174 x1 x2 x3 x4 r (k174 + 1) (f_X12_higher x5 ((S 167 (z_i k174).toInt.toNat) - (x2 * (x3 - (f_X12_hourOf (z_i k174) S))))) (f_X12_lower x6 ((S 168 (z_i k174).toInt.toNat) + (x2 * (x3 - (f_X12_hourOf (z_i k174) S))))) S else r_X12_escaped_174 x1 x2 x3 x4 r (k174 + 1) (f_X12_higher (f_X12_higher x5 ((S 167 (z_i k174).toInt.toNat) - (x2 * (x3 - (f_X12_hourOf (z_i k174) S))))) ((S 169 (z_i k174).toInt.toNat) - (x2 * (x3 - (f_X12_hourOf (z_i k174) S))))) (f_X12_lower (f_X12_lower x6 ((S 168 (z_i k174).toInt.toNat) + (x2 * (x3 - (f_X12_hourOf (z_i k174) S))))) ((S 170 (z_i k174).toInt.toNat) + (x2 * (x3 - (f_X12_hourOf (z_i k174) S))))) S)))))))
noncomputable def r_X12_escaped_69 (x1 : Int32) (x2 : Int32) (x3 : Int32) (x4 : Int32) : Nat → Nat → v_Sf → Int32 × v_Sf
  | 0, k69, S => (if ¬ (f_X12_laysAhead x1 x2 S) = 0 then r_X12_escaped_174 x1 x2 x3 x4 (x1.toInt.toNat - 0) 0 (Int32.ofInt 0) (Int32.ofInt 250) (g_X12_laysBehind x1 x2 (g_X12_laysAhead x1 x2 S)) else (Int32.ofInt (-2), g_X12_laysAhead x1 x2 S))
  | r + 1, k69, S => (if (Int32.ofInt 250) < (f_X12_byteAt (((Int32.ofInt 3) * (z_i k69)) + (Int32.ofInt 2)) S) then (Int32.ofInt (-3), S) else (if (f_X12_byteAt (((Int32.ofInt 3) * (z_i k69)) + (Int32.ofInt 2)) S) < (f_X12_byteAt (((Int32.ofInt 3) * (z_i k69)) + (Int32.ofInt 1)) S) then (Int32.ofInt (-3), S) else (if (z_i k69) ≤ 0 then r_X12_escaped_69 x1 x2 x3 x4 r (k69 + 1) S else (if (f_X12_hourOf ((z_i k69) - (Int32.ofInt 1)) S) < (f_X12_hourOf (z_i k69) S) then r_X12_escaped_69 x1 x2 x3 x4 r (k69 + 1) S else (Int32.ofInt (-3), S)))))
noncomputable def F_X12_escaped (a : Int32) (b : Int32) (i : Int32) (j : Int32) (S : v_Sf) : Int32 × v_Sf := (if (z_in a 1 8) = 0 then (Int32.ofInt (-1), S) else (if (z_in b 0 99) = 0 then (Int32.ofInt (-1), S) else (if (z_in i 0 255) = 0 then (Int32.ofInt (-1), S) else (if (z_in j 0 99) = 0 then (Int32.ofInt (-1), S) else (if ((Int32.ofInt 3) * a) ≤ (S 99 1) then r_X12_escaped_69 a b i j (a.toInt.toNat - 0) 0 (z_s S 99 1 (Int32.ofInt 0)) else (Int32.ofInt (-1), S))))))
noncomputable def f_X12_escaped (a : Int32) (b : Int32) (i : Int32) (j : Int32) (S : v_Sf) : Int32 := (F_X12_escaped a b i j S).1
noncomputable def g_X12_escaped (a : Int32) (b : Int32) (i : Int32) (j : Int32) (S : v_Sf) : v_Sf := (F_X12_escaped a b i j S).2
theorem c_X12_escaped (L : Nat) (xs : Nat → Int32) (n d : Nat) (a : Int32) (b : Int32) (i : Int32) (j : Int32) (S : v_Sf) (R : v_Rf) : u_P L xs n d m_X12_escaped 0 (lv_args 0 [.ref 100, .int a, .int b, .int i, .int j]) [] S R (z_Q R (fun v S1 => f_X12_escaped a b i j S = v ∧ g_X12_escaped a b i j S = S1)) := by
  refine w_X12_escaped L xs a b i j (fun y1 y2 y3 y4 y5 T => ∃ (k69 : Nat), k69 ≤ a.toInt.toNat ∧ z_i k69 = y5 ∧ a = y1 ∧ b = y2 ∧ i = y3 ∧ j = y4 ∧ r_X12_escaped_69 a b i j (a.toInt.toNat - k69) k69 T = F_X12_escaped a b i j S) (fun y1 y2 y3 y4 y5 y6 y7 T => ∃ (k174 : Nat), k174 ≤ a.toInt.toNat ∧ z_i k174 = y7 ∧ a = y1 ∧ b = y2 ∧ i = y3 ∧ j = y4 ∧ r_X12_escaped_174 a b i j (a.toInt.toNat - k174) k174 y5 y6 T = F_X12_escaped a b i j S) (fun v S1 => f_X12_escaped a b i j S = v ∧ g_X12_escaped a b i j S = S1) ?_ ?_ n d S ?_
  · rintro _ _ _ _ _ S1 ⟨k69, hkk, rfl, rfl, rfl, rfl, rfl, e⟩
    unfold D_X12_escaped_69
    rcases Nat.lt_or_ge k69 (a.toInt.toNat) with hk | hk
    · rw [show a.toInt.toNat - k69 = (a.toInt.toNat - (k69 + 1)) + 1 by omega, r_X12_escaped_69] at e
      refine ⟨fun q1 => ?_, fun q1 => ?_⟩
      · exact absurd hk (Nat.not_lt.mpr (z_leV q1 (by omega)))
      · refine ⟨fun q2 => ?_, fun q2 => ?_⟩
        · rw [if_pos q2] at e
          have e1 := congrArg Prod.fst e.symm
          have e2 := congrArg Prod.snd e.symm
          exact ⟨e1, e2⟩
        · refine ⟨fun q3 => ?_, fun q3 => ?_⟩
          · rw [if_neg q2, if_pos q3] at e
            have e1 := congrArg Prod.fst e.symm
            have e2 := congrArg Prod.snd e.symm
            exact ⟨e1, e2⟩
          · refine ⟨fun q4 => ?_, fun q4 => ?_⟩
            · rw [if_neg q2, if_neg q3, if_pos q4] at e
              exact ⟨(k69 + 1), by omega, (z_i1 k69).symm, rfl, rfl, rfl, rfl, e⟩
            · refine ⟨fun q5 => ?_, fun q5 => ?_⟩
              · rw [if_neg q2, if_neg q3, if_neg q4, if_pos q5] at e
                exact ⟨(k69 + 1), by omega, (z_i1 k69).symm, rfl, rfl, rfl, rfl, e⟩
              · rw [if_neg q2, if_neg q3, if_neg q4, if_neg q5] at e
                have e1 := congrArg Prod.fst e.symm
                have e2 := congrArg Prod.snd e.symm
                exact ⟨e1, e2⟩
    · rw [show a.toInt.toNat - k69 = 0 by omega, r_X12_escaped_69] at e
      refine ⟨fun q6 => ?_, fun q6 => ?_⟩
      · refine ⟨fun q7 => ?_, fun q7 => ?_⟩
        · rw [if_pos q7] at e
          exact ⟨0, by omega, rfl, rfl, rfl, rfl, rfl, e⟩
        · rw [if_neg q7] at e
          have e1 := congrArg Prod.fst e.symm
          have e2 := congrArg Prod.snd e.symm
          exact ⟨e1, e2⟩
      · exact absurd hk (Nat.not_le.mpr (z_ltV q6 (by omega)))
  · rintro _ _ _ _ x5 x6 _ S1 ⟨k174, hkk, rfl, rfl, rfl, rfl, rfl, e⟩
    unfold D_X12_escaped_174
    rcases Nat.lt_or_ge k174 (a.toInt.toNat) with hk | hk
    · rw [show a.toInt.toNat - k174 = (a.toInt.toNat - (k174 + 1)) + 1 by omega, r_X12_escaped_174] at e
      refine ⟨fun q8 => ?_, fun q8 => ?_⟩
      · exact absurd hk (Nat.not_lt.mpr (z_leV q8 (by omega)))
      · refine ⟨fun q9 => ?_, fun q9 => ?_⟩
        · refine ⟨fun q10 => ?_, fun q10 => ?_⟩
          · refine ⟨fun q11 => ?_, fun q11 => ?_⟩
            · rw [if_pos q9, if_pos q10, if_pos q11] at e
              exact ⟨(k174 + 1), by omega, (z_i1 k174).symm, rfl, rfl, rfl, rfl, e⟩
            · refine ⟨fun q12 => ?_, fun q12 => ?_⟩
              · intro _ _
                intro _ _
                rw [if_pos q9, if_pos q10, if_neg q11, if_pos q12] at e
                exact ⟨(k174 + 1), by omega, (z_i1 k174).symm, rfl, rfl, rfl, rfl, e⟩
              · refine ⟨fun q13 => ?_, fun q13 => ?_⟩
                · rw [if_pos q9, if_pos q10, if_neg q11, if_neg q12, if_pos q13] at e
                  exact ⟨(k174 + 1), by omega, (z_i1 k174).symm, rfl, rfl, rfl, rfl, e⟩
                · intro _ _
                  intro _ _
                  rw [if_pos q9, if_pos q10, if_neg q11, if_neg q12, if_neg q13] at e
                  exact ⟨(k174 + 1), by omega, (z_i1 k174).symm, rfl, rfl, rfl, rfl, e⟩
          · refine ⟨fun q14 => ?_, fun q14 => ?_⟩
            · intro _ _
              intro _ _
              refine ⟨fun q15 => ?_, fun q15 => ?_⟩
              · rw [if_pos q9, if_neg q10, if_pos q14, if_pos q15] at e
                exact ⟨(k174 + 1), by omega, (z_i1 k174).symm, rfl, rfl, rfl, rfl, e⟩
              · refine ⟨fun q16 => ?_, fun q16 => ?_⟩
                · intro _ _
                  intro _ _
                  rw [if_pos q9, if_neg q10, if_pos q14, if_neg q15, if_pos q16] at e
                  exact ⟨(k174 + 1), by omega, (z_i1 k174).symm, rfl, rfl, rfl, rfl, e⟩
                · refine ⟨fun q17 => ?_, fun q17 => ?_⟩
                  · rw [if_pos q9, if_neg q10, if_pos q14, if_neg q15, if_neg q16, if_pos q17] at e
                    exact ⟨(k174 + 1), by omega, (z_i1 k174).symm, rfl, rfl, rfl, rfl, e⟩
                  · intro _ _
                    intro _ _
                    rw [if_pos q9, if_neg q10, if_pos q14, if_neg q15, if_neg q16, if_neg q17] at e
                    exact ⟨(k174 + 1), by omega, (z_i1 k174).symm, rfl, rfl, rfl, rfl, e⟩
            · refine ⟨fun q18 => ?_, fun q18 => ?_⟩
              · refine ⟨fun q19 => ?_, fun q19 => ?_⟩
                · rw [if_pos q9, if_neg q10, if_neg q14, if_pos q18, if_pos q19] at e
                  exact ⟨(k174 + 1), by omega, (z_i1 k174).symm, rfl, rfl, rfl, rfl, e⟩
                · refine ⟨fun q20 => ?_, fun q20 => ?_⟩
                  · intro _ _
                    intro _ _
                    rw [if_pos q9, if_neg q10, if_neg q14, if_pos q18, if_neg q19, if_pos q20] at e
                    exact ⟨(k174 + 1), by omega, (z_i1 k174).symm, rfl, rfl, rfl, rfl, e⟩
                  · refine ⟨fun q21 => ?_, fun q21 => ?_⟩
                    · rw [if_pos q9, if_neg q10, if_neg q14, if_pos q18, if_neg q19, if_neg q20, if_pos q21] at e
                      exact ⟨(k174 + 1), by omega, (z_i1 k174).symm, rfl, rfl, rfl, rfl, e⟩
                    · intro _ _
                      intro _ _
                      rw [if_pos q9, if_neg q10, if_neg q14, if_pos q18, if_neg q19, if_neg q20, if_neg q21] at e
                      exact ⟨(k174 + 1), by omega, (z_i1 k174).symm, rfl, rfl, rfl, rfl, e⟩
              · intro _ _
                intro _ _
                refine ⟨fun q22 => ?_, fun q22 => ?_⟩
                · rw [if_pos q9, if_neg q10, if_neg q14, if_neg q18, if_pos q22] at e
                  exact ⟨(k174 + 1), by omega, (z_i1 k174).symm, rfl, rfl, rfl, rfl, e⟩
                · refine ⟨fun q23 => ?_, fun q23 => ?_⟩
                  · intro _ _
                    intro _ _
                    rw [if_pos q9, if_neg q10, if_neg q14, if_neg q18, if_neg q22, if_pos q23] at e
                    exact ⟨(k174 + 1), by omega, (z_i1 k174).symm, rfl, rfl, rfl, rfl, e⟩
                  · refine ⟨fun q24 => ?_, fun q24 => ?_⟩
                    · rw [if_pos q9, if_neg q10, if_neg q14, if_neg q18, if_neg q22, if_neg q23, if_pos q24] at e
                      exact ⟨(k174 + 1), by omega, (z_i1 k174).symm, rfl, rfl, rfl, rfl, e⟩
                    · intro _ _
                      intro _ _
                      rw [if_pos q9, if_neg q10, if_neg q14, if_neg q18, if_neg q22, if_neg q23, if_neg q24] at e
                      exact ⟨(k174 + 1), by omega, (z_i1 k174).symm, rfl, rfl, rfl, rfl, e⟩
        · refine ⟨fun q25 => ?_, fun q25 => ?_⟩
          · refine ⟨fun q26 => ?_, fun q26 => ?_⟩
            · rw [if_neg q9, if_pos q25, if_pos q26] at e
              exact ⟨(k174 + 1), by omega, (z_i1 k174).symm, rfl, rfl, rfl, rfl, e⟩
            · refine ⟨fun q27 => ?_, fun q27 => ?_⟩
              · intro _ _
                intro _ _
                rw [if_neg q9, if_pos q25, if_neg q26, if_pos q27] at e
                exact ⟨(k174 + 1), by omega, (z_i1 k174).symm, rfl, rfl, rfl, rfl, e⟩
              · refine ⟨fun q28 => ?_, fun q28 => ?_⟩
                · rw [if_neg q9, if_pos q25, if_neg q26, if_neg q27, if_pos q28] at e
                  exact ⟨(k174 + 1), by omega, (z_i1 k174).symm, rfl, rfl, rfl, rfl, e⟩
                · intro _ _
                  intro _ _
                  rw [if_neg q9, if_pos q25, if_neg q26, if_neg q27, if_neg q28] at e
                  exact ⟨(k174 + 1), by omega, (z_i1 k174).symm, rfl, rfl, rfl, rfl, e⟩
          · refine ⟨fun q29 => ?_, fun q29 => ?_⟩
            · intro _ _
              intro _ _
              refine ⟨fun q30 => ?_, fun q30 => ?_⟩
              · rw [if_neg q9, if_neg q25, if_pos q29, if_pos q30] at e
                exact ⟨(k174 + 1), by omega, (z_i1 k174).symm, rfl, rfl, rfl, rfl, e⟩
              · refine ⟨fun q31 => ?_, fun q31 => ?_⟩
                · intro _ _
                  intro _ _
                  rw [if_neg q9, if_neg q25, if_pos q29, if_neg q30, if_pos q31] at e
                  exact ⟨(k174 + 1), by omega, (z_i1 k174).symm, rfl, rfl, rfl, rfl, e⟩
                · refine ⟨fun q32 => ?_, fun q32 => ?_⟩
                  · rw [if_neg q9, if_neg q25, if_pos q29, if_neg q30, if_neg q31, if_pos q32] at e
                    exact ⟨(k174 + 1), by omega, (z_i1 k174).symm, rfl, rfl, rfl, rfl, e⟩
                  · intro _ _
                    intro _ _
                    rw [if_neg q9, if_neg q25, if_pos q29, if_neg q30, if_neg q31, if_neg q32] at e
                    exact ⟨(k174 + 1), by omega, (z_i1 k174).symm, rfl, rfl, rfl, rfl, e⟩
            · refine ⟨fun q33 => ?_, fun q33 => ?_⟩
              · refine ⟨fun q34 => ?_, fun q34 => ?_⟩
                · rw [if_neg q9, if_neg q25, if_neg q29, if_pos q33, if_pos q34] at e
                  exact ⟨(k174 + 1), by omega, (z_i1 k174).symm, rfl, rfl, rfl, rfl, e⟩
                · refine ⟨fun q35 => ?_, fun q35 => ?_⟩
                  · intro _ _
                    intro _ _
                    rw [if_neg q9, if_neg q25, if_neg q29, if_pos q33, if_neg q34, if_pos q35] at e
                    exact ⟨(k174 + 1), by omega, (z_i1 k174).symm, rfl, rfl, rfl, rfl, e⟩
                  · refine ⟨fun q36 => ?_, fun q36 => ?_⟩
                    · rw [if_neg q9, if_neg q25, if_neg q29, if_pos q33, if_neg q34, if_neg q35, if_pos q36] at e
                      exact ⟨(k174 + 1), by omega, (z_i1 k174).symm, rfl, rfl, rfl, rfl, e⟩
                    · intro _ _
                      intro _ _
                      rw [if_neg q9, if_neg q25, if_neg q29, if_pos q33, if_neg q34, if_neg q35, if_neg q36] at e
                      exact ⟨(k174 + 1), by omega, (z_i1 k174).symm, rfl, rfl, rfl, rfl, e⟩
              · intro _ _
                intro _ _
                refine ⟨fun q37 => ?_, fun q37 => ?_⟩
                · rw [if_neg q9, if_neg q25, if_neg q29, if_neg q33, if_pos q37] at e
                  exact ⟨(k174 + 1), by omega, (z_i1 k174).symm, rfl, rfl, rfl, rfl, e⟩
                · refine ⟨fun q38 => ?_, fun q38 => ?_⟩
                  · intro _ _
                    intro _ _
                    rw [if_neg q9, if_neg q25, if_neg q29, if_neg q33, if_neg q37, if_pos q38] at e
                    exact ⟨(k174 + 1), by omega, (z_i1 k174).symm, rfl, rfl, rfl, rfl, e⟩
                  · refine ⟨fun q39 => ?_, fun q39 => ?_⟩
                    · rw [if_neg q9, if_neg q25, if_neg q29, if_neg q33, if_neg q37, if_neg q38, if_pos q39] at e
                      exact ⟨(k174 + 1), by omega, (z_i1 k174).symm, rfl, rfl, rfl, rfl, e⟩
                    · intro _ _
                      intro _ _
                      rw [if_neg q9, if_neg q25, if_neg q29, if_neg q33, if_neg q37, if_neg q38, if_neg q39] at e
                      exact ⟨(k174 + 1), by omega, (z_i1 k174).symm, rfl, rfl, rfl, rfl, e⟩
    · rw [show a.toInt.toNat - k174 = 0 by omega, r_X12_escaped_174] at e
      refine ⟨fun q40 => ?_, fun q40 => ?_⟩
      · refine ⟨fun q41 => ?_, fun q41 => ?_⟩
        · refine ⟨fun q42 => ?_, fun q42 => ?_⟩
          · intro _
            rw [if_pos q41, if_pos q42] at e
            have e1 := congrArg Prod.fst e.symm
            have e2 := congrArg Prod.snd e.symm
            exact ⟨e1, e2⟩
          · rw [if_pos q41, if_neg q42] at e
            have e1 := congrArg Prod.fst e.symm
            have e2 := congrArg Prod.snd e.symm
            exact ⟨e1, e2⟩
        · rw [if_neg q41] at e
          have e1 := congrArg Prod.fst e.symm
          have e2 := congrArg Prod.snd e.symm
          exact ⟨e1, e2⟩
      · exact absurd hk (Nat.not_le.mpr (z_ltV q40 (by omega)))
  · unfold D_X12_escaped
    refine ⟨fun q43 => ?_, fun q43 => ?_⟩
    · have e : (Int32.ofInt (-1), S) = F_X12_escaped a b i j S := by rw [F_X12_escaped, if_pos q43]
      have e1 := congrArg Prod.fst e.symm
      have e2 := congrArg Prod.snd e.symm
      exact ⟨e1, e2⟩
    · refine ⟨fun q44 => ?_, fun q44 => ?_⟩
      · have e : (Int32.ofInt (-1), S) = F_X12_escaped a b i j S := by rw [F_X12_escaped, if_neg q43, if_pos q44]
        have e1 := congrArg Prod.fst e.symm
        have e2 := congrArg Prod.snd e.symm
        exact ⟨e1, e2⟩
      · refine ⟨fun q45 => ?_, fun q45 => ?_⟩
        · have e : (Int32.ofInt (-1), S) = F_X12_escaped a b i j S := by rw [F_X12_escaped, if_neg q43, if_neg q44, if_pos q45]
          have e1 := congrArg Prod.fst e.symm
          have e2 := congrArg Prod.snd e.symm
          exact ⟨e1, e2⟩
        · refine ⟨fun q46 => ?_, fun q46 => ?_⟩
          · have e : (Int32.ofInt (-1), S) = F_X12_escaped a b i j S := by rw [F_X12_escaped, if_neg q43, if_neg q44, if_neg q45, if_pos q46]
            have e1 := congrArg Prod.fst e.symm
            have e2 := congrArg Prod.snd e.symm
            exact ⟨e1, e2⟩
          · refine ⟨fun q47 => ?_, fun q47 => ?_⟩
            · have e : r_X12_escaped_69 a b i j (a.toInt.toNat - 0) 0 (z_s S 99 1 (Int32.ofInt 0)) = F_X12_escaped a b i j S := by rw [F_X12_escaped, if_neg q43, if_neg q44, if_neg q45, if_neg q46, if_pos q47]
              exact ⟨0, by omega, rfl, rfl, rfl, rfl, rfl, e⟩
            · have e : (Int32.ofInt (-1), S) = F_X12_escaped a b i j S := by rw [F_X12_escaped, if_neg q43, if_neg q44, if_neg q45, if_neg q46, if_neg q47]
              have e1 := congrArg Prod.fst e.symm
              have e2 := congrArg Prod.snd e.symm
              exact ⟨e1, e2⟩
end PrtS42wc
section PrtS42ya
theorem z_8le {k : Nat} (h : 8 ≤ k) (h2 : k ≤ 8) : Int32.ofInt 8 ≤ z_i k := by
  obtain rfl : k = 8 := by omega
  decide
noncomputable def D_spread77_4  (H4 : Int32 → Int32 → Int32 → v_Sf → Prop) (K : Int32 → v_Sf → Prop) (x0 : Int32) (x2 : Int32) (x3 : Int32) (S : v_Sf) : Prop := (((Int32.ofInt 12) ≤ x3 → K x2 S) ∧ (¬ ((Int32.ofInt 12) ≤ x3) → (((Int32.ofNat 8) ≤ x2 → K x2 S) ∧ (¬ ((Int32.ofNat 8) ≤ x2) → (((f_X11_isIn x0 x3) = 0 → H4 x0 x2 (x3 + (Int32.ofInt 1)) S) ∧ (¬ ((f_X11_isIn x0 x3) = 0) → (0 ≤ x2.toInt → x2.toInt < 8 → H4 x0 (x2 + (Int32.ofInt 1)) (x3 + (Int32.ofInt 1)) (z_s S 77 x2.toInt.toNat x3))))))))
noncomputable def D_spread77 (a : Int32) (H4 : Int32 → Int32 → Int32 → v_Sf → Prop) (K : Int32 → v_Sf → Prop) (S : v_Sf) : Prop := H4 a (Int32.ofInt 0) (Int32.ofInt 0) S
set_option maxRecDepth 4000 in
theorem hd_spread77 (L : Nat) (xs : Nat → Int32) {R : v_Rf} (a : Int32) (H4 : Int32 → Int32 → Int32 → v_Sf → Prop) (K : Int32 → v_Sf → Prop) (k4 : ∀ (x0 : Int32) (x2 : Int32) (x3 : Int32) (S : v_Sf), H4 x0 x2 x3 S → D_spread77_4 H4 K x0 x2 x3 S) : ∀ n, (∀ (d : Nat) (x0 : Int32) (x2 : Int32) (x3 : Int32) (S : v_Sf), H4 x0 x2 x3 S → u_P L xs n d m_X4_spread 4 [(0, .int x0), (1, .ref 78), (2, .int x2), (3, .int x3)] [] S R (z_Q R K)) := by
  intro n
  induction n using Nat.strongRecOn with
  | ind n ih =>
    intro d x0 x2 x3 S hD
    have hD := k4 x0 x2 x3 S hD
    unfold D_spread77_4 at hD
    show u_P L xs n d m_X4_spread 4 [(0, .int x0), (1, .ref 78), (2, .int x2), (3, .int x3)] [] S R _
    refine u_st1 rfl (fun _ => rfl) (fun m hm => ?_)
    refine u_st rfl (fun _ => rfl) ?_
    show u_P L xs m d m_X4_spread 7 [(0, .int x0), (1, .ref 78), (2, .int x2), (3, .int x3)] [.int (Int32.ofInt 12), .int x3] S R _
    refine u_ic_ge rfl (fun h1 => ?_) (fun h1 => ?_)
    · have hD := hD.1 h1
      show u_P L xs m d m_X4_spread 37 [(0, .int x0), (1, .ref 78), (2, .int x2), (3, .int x3)] [] S R _
      refine u_st rfl (fun _ => rfl) ?_
      show u_P L xs m d m_X4_spread 38 [(0, .int x0), (1, .ref 78), (2, .int x2), (3, .int x3)] [.int x2] S R _
      exact u_ret rfl rfl ⟨_, rfl, rfl, hD⟩
    · have hD := hD.2 h1
      show u_P L xs m d m_X4_spread 10 [(0, .int x0), (1, .ref 78), (2, .int x2), (3, .int x3)] [] S R _
      refine u_st rfl (fun _ => rfl) ?_
      refine u_st rfl (fun _ => rfl) ?_
      show u_P L xs m d m_X4_spread 12 [(0, .int x0), (1, .ref 78), (2, .int x2), (3, .int x3)] [.ref 78, .int x2] S R _
      refine u_al rfl rfl rfl ?_
      show u_P L xs m d m_X4_spread 13 [(0, .int x0), (1, .ref 78), (2, .int x2), (3, .int x3)] [.int (Int32.ofNat 8), .int x2] S R _
      refine u_ic_ge rfl (fun h2 => ?_) (fun h2 => ?_)
      · have hD := hD.1 h2
        show u_P L xs m d m_X4_spread 37 [(0, .int x0), (1, .ref 78), (2, .int x2), (3, .int x3)] [] S R _
        refine u_st rfl (fun _ => rfl) ?_
        show u_P L xs m d m_X4_spread 38 [(0, .int x0), (1, .ref 78), (2, .int x2), (3, .int x3)] [.int x2] S R _
        exact u_ret rfl rfl ⟨_, rfl, rfl, hD⟩
      · have hD := hD.2 h2
        show u_P L xs m d m_X4_spread 16 [(0, .int x0), (1, .ref 78), (2, .int x2), (3, .int x3)] [] S R _
        refine u_st rfl (fun _ => rfl) ?_
        refine u_st rfl (fun _ => rfl) ?_
        show u_P L xs m d m_X4_spread 18 [(0, .int x0), (1, .ref 78), (2, .int x2), (3, .int x3)] [.int x3, .int x0] S R _
        refine u_cs (ac := [.int x0, .int x3]) (rest := []) rfl (by decide) mt_X11_isIn (fun _ => rfl) (Nat.le_of_ble_eq_true rfl) (Nat.le_of_ble_eq_true rfl) (fun d' => c_X11_isIn L xs m d' x0 x3 S R) ?_
        rintro _ _ _ ⟨_, rfl, rfl, rfl, rfl⟩
        show u_P L xs m d m_X4_spread 21 [(0, .int x0), (1, .ref 78), (2, .int x2), (3, .int x3)] [.int (f_X11_isIn x0 x3)] S R _
        refine u_if_eq rfl (fun h3 => ?_) (fun h3 => ?_)
        · have hD := hD.1 h3
          show u_P L xs m d m_X4_spread 31 [(0, .int x0), (1, .ref 78), (2, .int x2), (3, .int x3)] [] S R _
          refine u_st rfl (fun _ => rfl) ?_
          refine u_st rfl (fun _ => rfl) ?_
          refine u_lc (b := [(0, .int x0), (1, .ref 78), (2, .int x2), (3, .int (x3 + (Int32.ofInt 1)))]) (show ([3, 0, 1, 2] : List Nat).Nodup by decide) (show ([0, 1, 2, 3] : List Nat).Nodup by decide) (fun i => match i with | 0 => rfl | 1 => rfl | 2 => rfl | 3 => rfl | _ + 4 => rfl) ?_
          exact (ih m hm) d x0 x2 (x3 + (Int32.ofInt 1)) S hD
        · have hD := hD.2 h3
          show u_P L xs m d m_X4_spread 24 [(0, .int x0), (1, .ref 78), (2, .int x2), (3, .int x3)] [] S R _
          refine u_st rfl (fun _ => rfl) ?_
          refine u_st rfl (fun _ => rfl) ?_
          refine u_st rfl (fun _ => rfl) ?_
          show u_P L xs m d m_X4_spread 27 [(0, .int x0), (1, .ref 78), (2, .int x2), (3, .int x3)] [.int x3, .int x2, .ref 78] S R _
          refine u_iast rfl rfl (fun b41 b42 => ?_)
          have hD := hD b41 b42
          show u_P L xs m d m_X4_spread 28 [(0, .int x0), (1, .ref 78), (2, .int x2), (3, .int x3)] [] (z_s S 77 x2.toInt.toNat x3) R _
          refine u_st rfl (fun _ => rfl) ?_
          refine u_st rfl (fun _ => rfl) ?_
          refine u_st rfl (fun _ => rfl) ?_
          refine u_lc (b := [(0, .int x0), (1, .ref 78), (2, .int (x2 + (Int32.ofInt 1))), (3, .int (x3 + (Int32.ofInt 1)))]) (show ([3, 2, 0, 1] : List Nat).Nodup by decide) (show ([0, 1, 2, 3] : List Nat).Nodup by decide) (fun i => match i with | 0 => rfl | 1 => rfl | 2 => rfl | 3 => rfl | _ + 4 => rfl) ?_
          exact (ih m hm) d x0 (x2 + (Int32.ofInt 1)) (x3 + (Int32.ofInt 1)) (z_s S 77 x2.toInt.toNat x3) hD
set_option maxRecDepth 4000 in
theorem w_spread77 (L : Nat) (xs : Nat → Int32) {R : v_Rf} (a : Int32) (H4 : Int32 → Int32 → Int32 → v_Sf → Prop) (K : Int32 → v_Sf → Prop) (k4 : ∀ (x0 : Int32) (x2 : Int32) (x3 : Int32) (S : v_Sf), H4 x0 x2 x3 S → D_spread77_4 H4 K x0 x2 x3 S) (n d : Nat) (S : v_Sf) (hD : D_spread77 a H4 K S) : u_P L xs n d m_X4_spread 0 (lv_args 0 [.int a, .ref 78]) [] S R (z_Q R K) := by
  unfold D_spread77 at hD
  show u_P L xs n d m_X4_spread 0 [(0, .int a), (1, .ref 78)] [] S R _
  refine u_st rfl (fun _ => rfl) ?_
  refine u_st rfl (fun _ => rfl) ?_
  refine u_st rfl (fun _ => rfl) ?_
  refine u_st rfl (fun _ => rfl) ?_
  refine u_lc (b := [(0, .int a), (1, .ref 78), (2, .int (Int32.ofInt 0)), (3, .int (Int32.ofInt 0))]) (show ([3, 2, 0, 1] : List Nat).Nodup by decide) (show ([0, 1, 2, 3] : List Nat).Nodup by decide) (fun i => match i with | 0 => rfl | 1 => rfl | 2 => rfl | 3 => rfl | _ + 4 => rfl) ?_
  exact (hd_spread77 L xs a H4 K k4 n) d a (Int32.ofInt 0) (Int32.ofInt 0) S hD
noncomputable def r_spread77_4 (x0 : Int32) : Nat → Nat → Int32 → v_Sf → Int32 × v_Sf
  | 0, k4, x2, S => (x2, S)
  | r + 1, k4, x2, S => (if (Int32.ofNat 8) ≤ x2 then (x2, S) else (if (f_X11_isIn x0 (z_i k4)) = 0 then r_spread77_4 x0 r (k4 + 1) x2 S else r_spread77_4 x0 r (k4 + 1) (x2 + (Int32.ofInt 1)) (z_s S 77 x2.toInt.toNat (z_i k4))))
noncomputable def F_spread77 (a : Int32) (S : v_Sf) : Int32 × v_Sf := r_spread77_4 a (12 - 0) 0 (Int32.ofInt 0) S
noncomputable def f_spread77 (a : Int32) (S : v_Sf) : Int32 := (F_spread77 a S).1
noncomputable def g_spread77 (a : Int32) (S : v_Sf) : v_Sf := (F_spread77 a S).2
theorem c_spread77 (L : Nat) (xs : Nat → Int32) (n d : Nat) (a : Int32) (S : v_Sf) (R : v_Rf) : u_P L xs n d m_X4_spread 0 (lv_args 0 [.int a, .ref 78]) [] S R (z_Q R (fun v S1 => f_spread77 a S = v ∧ g_spread77 a S = S1)) := by
  refine w_spread77 L xs a (fun y0 y2 y3 T => ∃ (k4 : Nat), k4 ≤ 12 ∧ z_i k4 = y3 ∧ a = y0 ∧ r_spread77_4 a (12 - k4) k4 y2 T = F_spread77 a S) (fun v S1 => f_spread77 a S = v ∧ g_spread77 a S = S1) ?_ n d S ?_
  · rintro _ x2 _ S1 ⟨k4, hkk, rfl, rfl, e⟩
    unfold D_spread77_4
    rcases Nat.lt_or_ge k4 (12) with hk | hk
    · rw [show 12 - k4 = (12 - (k4 + 1)) + 1 by omega, r_spread77_4] at e
      refine ⟨fun q1 => ?_, fun q1 => ?_⟩
      · exact absurd hk (Nat.not_lt.mpr (z_leB2 (B := 12) q1 (by decide) (by omega)))
      · refine ⟨fun q2 => ?_, fun q2 => ?_⟩
        · rw [if_pos q2] at e
          have e1 := congrArg Prod.fst e.symm
          have e2 := congrArg Prod.snd e.symm
          exact ⟨e1, e2⟩
        · refine ⟨fun q3 => ?_, fun q3 => ?_⟩
          · rw [if_neg q2, if_pos q3] at e
            exact ⟨(k4 + 1), by omega, (z_i1 k4).symm, rfl, e⟩
          · intro _ _
            rw [if_neg q2, if_neg q3] at e
            exact ⟨(k4 + 1), by omega, (z_i1 k4).symm, rfl, e⟩
    · rw [show 12 - k4 = 0 by omega, r_spread77_4] at e
      refine ⟨fun q4 => ?_, fun q4 => ?_⟩
      · have e1 := congrArg Prod.fst e.symm
        have e2 := congrArg Prod.snd e.symm
        exact ⟨e1, e2⟩
      · exact absurd hk (Nat.not_le.mpr (z_ltB2 (B := 12) q4 (by decide) (by omega)))
  · unfold D_spread77
    have e : r_spread77_4 a (12 - 0) 0 (Int32.ofInt 0) S = F_spread77 a S := by rw [F_spread77]
    exact ⟨0, by omega, rfl, rfl, e⟩
noncomputable def D_fill79_5  (H5 : Int32 → Int32 → Int32 → v_Sf → Prop) (K : v_Sf → Prop) (x1 : Int32) (x2 : Int32) (x3 : Int32) (S : v_Sf) : Prop := ((x3 ≤ x2 → K S) ∧ (¬ (x3 ≤ x2) → (0 ≤ x2.toInt → x2.toInt < 8 → H5 x1 (x2 + (Int32.ofInt 1)) x3 (z_s S 79 x2.toInt.toNat x1))))
noncomputable def D_fill79 (v : Int32) (H5 : Int32 → Int32 → Int32 → v_Sf → Prop) (K : v_Sf → Prop) (S : v_Sf) : Prop := H5 v (Int32.ofInt 0) (Int32.ofNat 8) S
set_option maxRecDepth 4000 in
theorem hd_fill79 (L : Nat) (xs : Nat → Int32) {R : v_Rf} (v : Int32) (H5 : Int32 → Int32 → Int32 → v_Sf → Prop) (K : v_Sf → Prop) (k5 : ∀ (x1 : Int32) (x2 : Int32) (x3 : Int32) (S : v_Sf), H5 x1 x2 x3 S → D_fill79_5 H5 K x1 x2 x3 S) : ∀ n, (∀ (d : Nat) (x1 : Int32) (x2 : Int32) (x3 : Int32) (S : v_Sf), H5 x1 x2 x3 S → u_P L xs n d m_J7_fill_53178 5 [(0, .ref 80), (1, .int x1), (2, .int x2), (3, .int x3)] [] S R (z_V R K)) := by
  intro n
  induction n using Nat.strongRecOn with
  | ind n ih =>
    intro d x1 x2 x3 S hD
    have hD := k5 x1 x2 x3 S hD
    unfold D_fill79_5 at hD
    show u_P L xs n d m_J7_fill_53178 5 [(0, .ref 80), (1, .int x1), (2, .int x2), (3, .int x3)] [] S R _
    refine u_st1 rfl (fun _ => rfl) (fun m hm => ?_)
    refine u_st rfl (fun _ => rfl) ?_
    show u_P L xs m d m_J7_fill_53178 7 [(0, .ref 80), (1, .int x1), (2, .int x2), (3, .int x3)] [.int x3, .int x2] S R _
    refine u_ic_ge rfl (fun h1 => ?_) (fun h1 => ?_)
    · have hD := hD.1 h1
      show u_P L xs m d m_J7_fill_53178 20 [(0, .ref 80), (1, .int x1), (2, .int x2), (3, .int x3)] [] S R _
      exact u_ret rfl rfl ⟨rfl, rfl, hD⟩
    · have hD := hD.2 h1
      show u_P L xs m d m_J7_fill_53178 10 [(0, .ref 80), (1, .int x1), (2, .int x2), (3, .int x3)] [] S R _
      refine u_st rfl (fun _ => rfl) ?_
      refine u_st rfl (fun _ => rfl) ?_
      refine u_st rfl (fun _ => rfl) ?_
      show u_P L xs m d m_J7_fill_53178 13 [(0, .ref 80), (1, .int x1), (2, .int x2), (3, .int x3)] [.int x1, .int x2, .ref 80] S R _
      refine u_iast rfl rfl (fun b21 b22 => ?_)
      have hD := hD b21 b22
      show u_P L xs m d m_J7_fill_53178 14 [(0, .ref 80), (1, .int x1), (2, .int x2), (3, .int x3)] [] (z_s S 79 x2.toInt.toNat x1) R _
      refine u_st rfl (fun _ => rfl) ?_
      refine u_st rfl (fun _ => rfl) ?_
      refine u_lc (b := [(0, .ref 80), (1, .int x1), (2, .int (x2 + (Int32.ofInt 1))), (3, .int x3)]) (show ([2, 0, 1, 3] : List Nat).Nodup by decide) (show ([0, 1, 2, 3] : List Nat).Nodup by decide) (fun i => match i with | 0 => rfl | 1 => rfl | 2 => rfl | 3 => rfl | _ + 4 => rfl) ?_
      exact (ih m hm) d x1 (x2 + (Int32.ofInt 1)) x3 (z_s S 79 x2.toInt.toNat x1) hD
set_option maxRecDepth 4000 in
theorem w_fill79 (L : Nat) (xs : Nat → Int32) {R : v_Rf} (v : Int32) (H5 : Int32 → Int32 → Int32 → v_Sf → Prop) (K : v_Sf → Prop) (k5 : ∀ (x1 : Int32) (x2 : Int32) (x3 : Int32) (S : v_Sf), H5 x1 x2 x3 S → D_fill79_5 H5 K x1 x2 x3 S) (n d : Nat) (S : v_Sf) (hD : D_fill79 v H5 K S) : u_P L xs n d m_J7_fill_53178 0 (lv_args 0 [.ref 80, .int v]) [] S R (z_V R K) := by
  unfold D_fill79 at hD
  show u_P L xs n d m_J7_fill_53178 0 [(0, .ref 80), (1, .int v)] [] S R _
  refine u_st rfl (fun _ => rfl) ?_
  refine u_st rfl (fun _ => rfl) ?_
  refine u_st rfl (fun _ => rfl) ?_
  show u_P L xs n d m_J7_fill_53178 3 [(2, .int (Int32.ofInt 0)), (0, .ref 80), (1, .int v)] [.ref 80] S R _
  refine u_al rfl rfl rfl ?_
  refine u_st rfl (fun _ => rfl) ?_
  refine u_lc (b := [(0, .ref 80), (1, .int v), (2, .int (Int32.ofInt 0)), (3, .int (Int32.ofNat 8))]) (show ([3, 2, 0, 1] : List Nat).Nodup by decide) (show ([0, 1, 2, 3] : List Nat).Nodup by decide) (fun i => match i with | 0 => rfl | 1 => rfl | 2 => rfl | 3 => rfl | _ + 4 => rfl) ?_
  exact (hd_fill79 L xs v H5 K k5 n) d v (Int32.ofInt 0) (Int32.ofNat 8) S hD
noncomputable def r_fill79_5 (x1 : Int32) (x3 : Int32) : Nat → Nat → v_Sf → v_Sf
  | 0, k5, S => S
  | r + 1, k5, S => r_fill79_5 x1 x3 r (k5 + 1) (z_s S 79 (z_i k5).toInt.toNat x1)
noncomputable def F_fill79 (v : Int32) (S : v_Sf) : v_Sf := r_fill79_5 v (Int32.ofNat 8) (((Int32.ofNat 8)).toInt.toNat - 0) 0 S
noncomputable def g_fill79 (v : Int32) (S : v_Sf) : v_Sf := F_fill79 v S
theorem c_fill79 (L : Nat) (xs : Nat → Int32) (n d : Nat) (v : Int32) (S : v_Sf) (R : v_Rf) : u_P L xs n d m_J7_fill_53178 0 (lv_args 0 [.ref 80, .int v]) [] S R (z_V R (fun S1 => g_fill79 v S = S1)) := by
  refine w_fill79 L xs v (fun y1 y2 y3 T => ∃ (k5 : Nat), k5 ≤ ((Int32.ofNat 8)).toInt.toNat ∧ z_i k5 = y2 ∧ v = y1 ∧ Int32.ofNat 8 = y3 ∧ r_fill79_5 v (Int32.ofNat 8) (((Int32.ofNat 8)).toInt.toNat - k5) k5 T = F_fill79 v S) (fun S1 => g_fill79 v S = S1) ?_ n d S ?_
  · rintro _ _ _ S1 ⟨k5, hkk, rfl, rfl, rfl, e⟩
    unfold D_fill79_5
    rcases Nat.lt_or_ge k5 (((Int32.ofNat 8)).toInt.toNat) with hk | hk
    · rw [show ((Int32.ofNat 8)).toInt.toNat - k5 = (((Int32.ofNat 8)).toInt.toNat - (k5 + 1)) + 1 by omega, r_fill79_5] at e
      refine ⟨fun q1 => ?_, fun q1 => ?_⟩
      · exact absurd hk (Nat.not_lt.mpr (z_leV q1 (by omega)))
      · intro _ _
        exact ⟨(k5 + 1), by omega, (z_i1 k5).symm, rfl, rfl, e⟩
    · rw [show ((Int32.ofNat 8)).toInt.toNat - k5 = 0 by omega, r_fill79_5] at e
      refine ⟨fun q2 => ?_, fun q2 => ?_⟩
      · exact e.symm
      · exact absurd hk (Nat.not_le.mpr (z_ltV q2 (by omega)))
  · unfold D_fill79
    have e : r_fill79_5 v (Int32.ofNat 8) (((Int32.ofNat 8)).toInt.toNat - 0) 0 S = F_fill79 v S := by rw [F_fill79]
    exact ⟨0, by omega, rfl, rfl, rfl, e⟩
noncomputable abbrev m_X4_learnOdds : g_M := (g_cn 4, yX4_learnOdds, cX4_learnOdds, 4, none, g_look2 ttX4_learnOdds)
set_option maxRecDepth 20000 in
theorem mt_X4_learnOdds : g_mt 52 = some m_X4_learnOdds := rfl
noncomputable def D_X4_learnOdds_10 (c : Nat) (H10 : Int32 → v_Sf → Prop) (H28 : Int32 → Int32 → v_Sf → Prop) (K : v_Sf → Prop) (x2 : Int32) (S : v_Sf) : Prop := (((S 76 4) ≤ x2 → K S) ∧ (¬ ((S 76 4) ≤ x2) → (((Int32.ofInt 8) ≤ x2 → K S) ∧ (¬ ((Int32.ofInt 8) ≤ x2) → H28 x2 (x2 + (Int32.ofInt 1)) S))))
noncomputable def D_X4_learnOdds_28 (c : Nat) (H10 : Int32 → v_Sf → Prop) (H28 : Int32 → Int32 → v_Sf → Prop) (K : v_Sf → Prop) (x2 : Int32) (x3 : Int32) (S : v_Sf) : Prop := (((S 76 4) ≤ x3 → H10 (x2 + (Int32.ofInt 1)) S) ∧ (¬ ((S 76 4) ≤ x3) → (((Int32.ofInt 8) ≤ x3 → H10 (x2 + (Int32.ofInt 1)) S) ∧ (¬ ((Int32.ofInt 8) ≤ x3) → (0 ≤ x2.toInt → x2.toInt < 8 → (0 ≤ x3.toInt → x3.toInt < 8 → (((f_X3_atOdds c 1 (S 77 x2.toInt.toNat) (S 77 x3.toInt.toNat) S) = 0 → H28 x2 (x3 + (Int32.ofInt 1)) (g_X3_atOdds c 1 (S 77 x2.toInt.toNat) (S 77 x3.toInt.toNat) S)) ∧ (¬ ((f_X3_atOdds c 1 (S 77 x2.toInt.toNat) (S 77 x3.toInt.toNat) S) = 0) → (0 ≤ x2.toInt → x2.toInt < 8 → (0 ≤ x2.toInt → x2.toInt < 8 → (0 ≤ x3.toInt → x3.toInt < 8 → (0 ≤ x3.toInt → x3.toInt < 8 → H28 x2 (x3 + (Int32.ofInt 1)) (z_s (z_s (g_X3_atOdds c 1 (S 77 x2.toInt.toNat) (S 77 x3.toInt.toNat) S) 79 x2.toInt.toNat (((g_X3_atOdds c 1 (S 77 x2.toInt.toNat) (S 77 x3.toInt.toNat) S) 79 x2.toInt.toNat) ||| ((Int32.ofInt 1) <<< (x3 &&& 31)))) 79 x3.toInt.toNat (((z_s (g_X3_atOdds c 1 (S 77 x2.toInt.toNat) (S 77 x3.toInt.toNat) S) 79 x2.toInt.toNat (((g_X3_atOdds c 1 (S 77 x2.toInt.toNat) (S 77 x3.toInt.toNat) S) 79 x2.toInt.toNat) ||| ((Int32.ofInt 1) <<< (x3 &&& 31)))) 79 x3.toInt.toNat) ||| ((Int32.ofInt 1) <<< (x2 &&& 31))))))))))))))))
noncomputable def D_X4_learnOdds (c : Nat) (H10 : Int32 → v_Sf → Prop) (H28 : Int32 → Int32 → v_Sf → Prop) (K : v_Sf → Prop) (S : v_Sf) : Prop := H10 (Int32.ofInt 0) (g_fill79 (Int32.ofInt 0) S)
set_option maxRecDepth 4000 in
theorem hd_X4_learnOdds (L : Nat) (xs : Nat → Int32) {R : v_Rf} (hW : z_W R) {c : Nat} (hL : R 50 2 = some (c + 1)) (hc : z_cd c) (H10 : Int32 → v_Sf → Prop) (H28 : Int32 → Int32 → v_Sf → Prop) (K : v_Sf → Prop) (k10 : ∀ (x2 : Int32) (S : v_Sf), H10 x2 S → D_X4_learnOdds_10 c H10 H28 K x2 S) (k28 : ∀ (x2 : Int32) (x3 : Int32) (S : v_Sf), H28 x2 x3 S → D_X4_learnOdds_28 c H10 H28 K x2 x3 S) : ∀ n, (∀ (d : Nat) (x2 : Int32) (S : v_Sf), H10 x2 S → u_P L xs n d m_X4_learnOdds 10 [(0, .ref 77), (1, .ref 2), (2, .int x2)] [] S R (z_V R K)) ∧ (∀ (d : Nat) (j3 : Int32) (x2 : Int32) (S : v_Sf), H10 x2 S → u_P L xs n d m_X4_learnOdds 10 [(0, .ref 77), (1, .ref 2), (2, .int x2), (3, .int j3)] [] S R (z_V R K)) ∧ (∀ (d : Nat) (x2 : Int32) (x3 : Int32) (S : v_Sf), H28 x2 x3 S → u_P L xs n d m_X4_learnOdds 28 [(0, .ref 77), (1, .ref 2), (2, .int x2), (3, .int x3)] [] S R (z_V R K)) := by
  intro n
  induction n using Nat.strongRecOn with
  | ind n ih =>
    refine ⟨?_, ?_, ?_⟩
    · intro d x2 S hD
      have hD := k10 x2 S hD
      unfold D_X4_learnOdds_10 at hD
      show u_P L xs n d m_X4_learnOdds 10 [(0, .ref 77), (1, .ref 2), (2, .int x2)] [] S R _
      refine u_st1 rfl (fun _ => rfl) (fun m hm => ?_)
      refine u_st rfl (fun _ => rfl) ?_
      show u_P L xs m d m_X4_learnOdds 12 [(0, .ref 77), (1, .ref 2), (2, .int x2)] [.ref 77, .int x2] S R _
      refine u_getE (v := S 76 4) rfl rfl rfl rfl ?_
      show u_P L xs m d m_X4_learnOdds 15 [(0, .ref 77), (1, .ref 2), (2, .int x2)] [.int (S 76 4), .int x2] S R _
      refine u_ic_ge rfl (fun h1 => ?_) (fun h1 => ?_)
      · have hD := hD.1 h1
        show u_P L xs m d m_X4_learnOdds 101 [(0, .ref 77), (1, .ref 2), (2, .int x2)] [] S R _
        exact u_ret rfl rfl ⟨rfl, rfl, hD⟩
      · have hD := hD.2 h1
        show u_P L xs m d m_X4_learnOdds 18 [(0, .ref 77), (1, .ref 2), (2, .int x2)] [] S R _
        refine u_st rfl (fun _ => rfl) ?_
        refine u_st rfl (fun _ => rfl) ?_
        show u_P L xs m d m_X4_learnOdds 21 [(0, .ref 77), (1, .ref 2), (2, .int x2)] [.int (Int32.ofInt 8), .int x2] S R _
        refine u_ic_ge rfl (fun h2 => ?_) (fun h2 => ?_)
        · have hD := hD.1 h2
          show u_P L xs m d m_X4_learnOdds 101 [(0, .ref 77), (1, .ref 2), (2, .int x2)] [] S R _
          exact u_ret rfl rfl ⟨rfl, rfl, hD⟩
        · have hD := hD.2 h2
          show u_P L xs m d m_X4_learnOdds 24 [(0, .ref 77), (1, .ref 2), (2, .int x2)] [] S R _
          refine u_st rfl (fun _ => rfl) ?_
          refine u_st rfl (fun _ => rfl) ?_
          refine u_st rfl (fun _ => rfl) ?_
          refine u_st rfl (fun _ => rfl) ?_
          refine u_lc (b := [(0, .ref 77), (1, .ref 2), (2, .int x2), (3, .int (x2 + (Int32.ofInt 1)))]) (show ([3, 0, 1, 2] : List Nat).Nodup by decide) (show ([0, 1, 2, 3] : List Nat).Nodup by decide) (fun i => match i with | 0 => rfl | 1 => rfl | 2 => rfl | 3 => rfl | _ + 4 => rfl) ?_
          exact (ih m hm).2.2 d x2 (x2 + (Int32.ofInt 1)) S hD
    · intro d j3 x2 S hD
      have hD := k10 x2 S hD
      unfold D_X4_learnOdds_10 at hD
      show u_P L xs n d m_X4_learnOdds 10 [(0, .ref 77), (1, .ref 2), (2, .int x2), (3, .int j3)] [] S R _
      refine u_st1 rfl (fun _ => rfl) (fun m hm => ?_)
      refine u_st rfl (fun _ => rfl) ?_
      show u_P L xs m d m_X4_learnOdds 12 [(0, .ref 77), (1, .ref 2), (2, .int x2), (3, .int j3)] [.ref 77, .int x2] S R _
      refine u_getE (v := S 76 4) rfl rfl rfl rfl ?_
      show u_P L xs m d m_X4_learnOdds 15 [(0, .ref 77), (1, .ref 2), (2, .int x2), (3, .int j3)] [.int (S 76 4), .int x2] S R _
      refine u_ic_ge rfl (fun h1 => ?_) (fun h1 => ?_)
      · have hD := hD.1 h1
        show u_P L xs m d m_X4_learnOdds 101 [(0, .ref 77), (1, .ref 2), (2, .int x2), (3, .int j3)] [] S R _
        exact u_ret rfl rfl ⟨rfl, rfl, hD⟩
      · have hD := hD.2 h1
        show u_P L xs m d m_X4_learnOdds 18 [(0, .ref 77), (1, .ref 2), (2, .int x2), (3, .int j3)] [] S R _
        refine u_st rfl (fun _ => rfl) ?_
        refine u_st rfl (fun _ => rfl) ?_
        show u_P L xs m d m_X4_learnOdds 21 [(0, .ref 77), (1, .ref 2), (2, .int x2), (3, .int j3)] [.int (Int32.ofInt 8), .int x2] S R _
        refine u_ic_ge rfl (fun h2 => ?_) (fun h2 => ?_)
        · have hD := hD.1 h2
          show u_P L xs m d m_X4_learnOdds 101 [(0, .ref 77), (1, .ref 2), (2, .int x2), (3, .int j3)] [] S R _
          exact u_ret rfl rfl ⟨rfl, rfl, hD⟩
        · have hD := hD.2 h2
          show u_P L xs m d m_X4_learnOdds 24 [(0, .ref 77), (1, .ref 2), (2, .int x2), (3, .int j3)] [] S R _
          refine u_st rfl (fun _ => rfl) ?_
          refine u_st rfl (fun _ => rfl) ?_
          refine u_st rfl (fun _ => rfl) ?_
          refine u_st rfl (fun _ => rfl) ?_
          refine u_lc (b := [(0, .ref 77), (1, .ref 2), (2, .int x2), (3, .int (x2 + (Int32.ofInt 1)))]) (show ([3, 0, 1, 2] : List Nat).Nodup by decide) (show ([0, 1, 2, 3] : List Nat).Nodup by decide) (fun i => match i with | 0 => rfl | 1 => rfl | 2 => rfl | 3 => rfl | _ + 4 => rfl) ?_
          exact (ih m hm).2.2 d x2 (x2 + (Int32.ofInt 1)) S hD
    · intro d x2 x3 S hD
      have hD := k28 x2 x3 S hD
      unfold D_X4_learnOdds_28 at hD
      show u_P L xs n d m_X4_learnOdds 28 [(0, .ref 77), (1, .ref 2), (2, .int x2), (3, .int x3)] [] S R _
      refine u_st1 rfl (fun _ => rfl) (fun m hm => ?_)
      refine u_st rfl (fun _ => rfl) ?_
      show u_P L xs m d m_X4_learnOdds 30 [(0, .ref 77), (1, .ref 2), (2, .int x2), (3, .int x3)] [.ref 77, .int x3] S R _
      refine u_getE (v := S 76 4) rfl rfl rfl rfl ?_
      show u_P L xs m d m_X4_learnOdds 33 [(0, .ref 77), (1, .ref 2), (2, .int x2), (3, .int x3)] [.int (S 76 4), .int x3] S R _
      refine u_ic_ge rfl (fun h1 => ?_) (fun h1 => ?_)
      · have hD := hD.1 h1
        show u_P L xs m d m_X4_learnOdds 95 [(0, .ref 77), (1, .ref 2), (2, .int x2), (3, .int x3)] [] S R _
        refine u_st rfl (fun _ => rfl) ?_
        refine u_st rfl (fun _ => rfl) ?_
        refine u_lc (b := [(0, .ref 77), (1, .ref 2), (2, .int (x2 + (Int32.ofInt 1))), (3, .int x3)]) (show ([2, 0, 1, 3] : List Nat).Nodup by decide) (show ([0, 1, 2, 3] : List Nat).Nodup by decide) (fun i => match i with | 0 => rfl | 1 => rfl | 2 => rfl | 3 => rfl | _ + 4 => rfl) ?_
        exact (ih m hm).2.1 d x3 (x2 + (Int32.ofInt 1)) S hD
      · have hD := hD.2 h1
        show u_P L xs m d m_X4_learnOdds 36 [(0, .ref 77), (1, .ref 2), (2, .int x2), (3, .int x3)] [] S R _
        refine u_st rfl (fun _ => rfl) ?_
        refine u_st rfl (fun _ => rfl) ?_
        show u_P L xs m d m_X4_learnOdds 39 [(0, .ref 77), (1, .ref 2), (2, .int x2), (3, .int x3)] [.int (Int32.ofInt 8), .int x3] S R _
        refine u_ic_ge rfl (fun h2 => ?_) (fun h2 => ?_)
        · have hD := hD.1 h2
          show u_P L xs m d m_X4_learnOdds 95 [(0, .ref 77), (1, .ref 2), (2, .int x2), (3, .int x3)] [] S R _
          refine u_st rfl (fun _ => rfl) ?_
          refine u_st rfl (fun _ => rfl) ?_
          refine u_lc (b := [(0, .ref 77), (1, .ref 2), (2, .int (x2 + (Int32.ofInt 1))), (3, .int x3)]) (show ([2, 0, 1, 3] : List Nat).Nodup by decide) (show ([0, 1, 2, 3] : List Nat).Nodup by decide) (fun i => match i with | 0 => rfl | 1 => rfl | 2 => rfl | 3 => rfl | _ + 4 => rfl) ?_
          exact (ih m hm).2.1 d x3 (x2 + (Int32.ofInt 1)) S hD
        · have hD := hD.2 h2
          show u_P L xs m d m_X4_learnOdds 42 [(0, .ref 77), (1, .ref 2), (2, .int x2), (3, .int x3)] [] S R _
          refine u_st rfl (fun _ => rfl) ?_
          show u_P L xs m d m_X4_learnOdds 43 [(0, .ref 77), (1, .ref 2), (2, .int x2), (3, .int x3)] [.ref 77] S R _
          refine u_getr rfl rfl rfl ?_
          refine u_st rfl (fun _ => rfl) ?_
          refine u_st rfl (fun _ => rfl) ?_
          show u_P L xs m d m_X4_learnOdds 48 [(0, .ref 77), (1, .ref 2), (2, .int x2), (3, .int x3)] [.ref 77, .ref 2, .ref 51] S R _
          refine u_getr rfl rfl rfl ?_
          refine u_st rfl (fun _ => rfl) ?_
          show u_P L xs m d m_X4_learnOdds 52 [(0, .ref 77), (1, .ref 2), (2, .int x2), (3, .int x3)] [.int x2, .ref 78, .ref 2, .ref 51] S R _
          refine u_ialdE (v := S 77 x2.toInt.toNat) rfl rfl rfl (fun b31 b32 => ?_)
          have hD := hD b31 b32
          show u_P L xs m d m_X4_learnOdds 53 [(0, .ref 77), (1, .ref 2), (2, .int x2), (3, .int x3)] [.int (S 77 x2.toInt.toNat), .ref 2, .ref 51] S R _
          refine u_st rfl (fun _ => rfl) ?_
          show u_P L xs m d m_X4_learnOdds 54 [(0, .ref 77), (1, .ref 2), (2, .int x2), (3, .int x3)] [.ref 77, .int (S 77 x2.toInt.toNat), .ref 2, .ref 51] S R _
          refine u_getr rfl rfl rfl ?_
          refine u_st rfl (fun _ => rfl) ?_
          show u_P L xs m d m_X4_learnOdds 58 [(0, .ref 77), (1, .ref 2), (2, .int x2), (3, .int x3)] [.int x3, .ref 78, .int (S 77 x2.toInt.toNat), .ref 2, .ref 51] S R _
          refine u_ialdE (v := S 77 x3.toInt.toNat) rfl rfl rfl (fun b41 b42 => ?_)
          have hD := hD b41 b42
          show u_P L xs m d m_X4_learnOdds 59 [(0, .ref 77), (1, .ref 2), (2, .int x2), (3, .int x3)] [.int (S 77 x3.toInt.toNat), .int (S 77 x2.toInt.toNat), .ref 2, .ref 51] S R _
          refine u_cv (rest := []) rfl (by decide) mt_X3_atOdds rfl rfl rfl rfl (Nat.le_of_ble_eq_true rfl) (Nat.le_of_ble_eq_true rfl) (Nat.le_of_ble_eq_true rfl) (fun d' => c_X3_atOdds L xs m d' hW hL hc 1 (Or.inl rfl) (S 77 x2.toInt.toNat) (S 77 x3.toInt.toNat) S) ?_
          rintro _ _ _ ⟨_, rfl, rfl, rfl, rfl⟩
          show u_P L xs m d m_X4_learnOdds 62 [(0, .ref 77), (1, .ref 2), (2, .int x2), (3, .int x3)] [.int (f_X3_atOdds c 1 (S 77 x2.toInt.toNat) (S 77 x3.toInt.toNat) S)] (g_X3_atOdds c 1 (S 77 x2.toInt.toNat) (S 77 x3.toInt.toNat) S) R _
          refine u_if_eq rfl (fun h5 => ?_) (fun h5 => ?_)
          · have hD := hD.1 h5
            show u_P L xs m d m_X4_learnOdds 89 [(0, .ref 77), (1, .ref 2), (2, .int x2), (3, .int x3)] [] (g_X3_atOdds c 1 (S 77 x2.toInt.toNat) (S 77 x3.toInt.toNat) S) R _
            refine u_st rfl (fun _ => rfl) ?_
            refine u_st rfl (fun _ => rfl) ?_
            refine u_lc (b := [(0, .ref 77), (1, .ref 2), (2, .int x2), (3, .int (x3 + (Int32.ofInt 1)))]) (show ([3, 0, 1, 2] : List Nat).Nodup by decide) (show ([0, 1, 2, 3] : List Nat).Nodup by decide) (fun i => match i with | 0 => rfl | 1 => rfl | 2 => rfl | 3 => rfl | _ + 4 => rfl) ?_
            exact (ih m hm).2.2 d x2 (x3 + (Int32.ofInt 1)) (g_X3_atOdds c 1 (S 77 x2.toInt.toNat) (S 77 x3.toInt.toNat) S) hD
          · have hD := hD.2 h5
            show u_P L xs m d m_X4_learnOdds 65 [(0, .ref 77), (1, .ref 2), (2, .int x2), (3, .int x3)] [] (g_X3_atOdds c 1 (S 77 x2.toInt.toNat) (S 77 x3.toInt.toNat) S) R _
            refine u_st rfl (fun _ => rfl) ?_
            show u_P L xs m d m_X4_learnOdds 66 [(0, .ref 77), (1, .ref 2), (2, .int x2), (3, .int x3)] [.ref 77] (g_X3_atOdds c 1 (S 77 x2.toInt.toNat) (S 77 x3.toInt.toNat) S) R _
            refine u_getr rfl rfl rfl ?_
            refine u_st rfl (fun _ => rfl) ?_
            refine u_st rfl (fun _ => rfl) ?_
            show u_P L xs m d m_X4_learnOdds 71 [(0, .ref 77), (1, .ref 2), (2, .int x2), (3, .int x3)] [.int x2, .ref 80, .int x2, .ref 80] (g_X3_atOdds c 1 (S 77 x2.toInt.toNat) (S 77 x3.toInt.toNat) S) R _
            refine u_ialdE (v := (g_X3_atOdds c 1 (S 77 x2.toInt.toNat) (S 77 x3.toInt.toNat) S) 79 x2.toInt.toNat) rfl rfl rfl (fun b61 b62 => ?_)
            have hD := hD b61 b62
            show u_P L xs m d m_X4_learnOdds 72 [(0, .ref 77), (1, .ref 2), (2, .int x2), (3, .int x3)] [.int ((g_X3_atOdds c 1 (S 77 x2.toInt.toNat) (S 77 x3.toInt.toNat) S) 79 x2.toInt.toNat), .int x2, .ref 80] (g_X3_atOdds c 1 (S 77 x2.toInt.toNat) (S 77 x3.toInt.toNat) S) R _
            refine u_st rfl (fun _ => rfl) ?_
            refine u_st rfl (fun _ => rfl) ?_
            refine u_st rfl (fun _ => rfl) ?_
            refine u_st rfl (fun _ => rfl) ?_
            show u_P L xs m d m_X4_learnOdds 76 [(0, .ref 77), (1, .ref 2), (2, .int x2), (3, .int x3)] [.int (((g_X3_atOdds c 1 (S 77 x2.toInt.toNat) (S 77 x3.toInt.toNat) S) 79 x2.toInt.toNat) ||| ((Int32.ofInt 1) <<< (x3 &&& 31))), .int x2, .ref 80] (g_X3_atOdds c 1 (S 77 x2.toInt.toNat) (S 77 x3.toInt.toNat) S) R _
            refine u_iast rfl rfl (fun b71 b72 => ?_)
            have hD := hD b71 b72
            show u_P L xs m d m_X4_learnOdds 77 [(0, .ref 77), (1, .ref 2), (2, .int x2), (3, .int x3)] [] (z_s (g_X3_atOdds c 1 (S 77 x2.toInt.toNat) (S 77 x3.toInt.toNat) S) 79 x2.toInt.toNat (((g_X3_atOdds c 1 (S 77 x2.toInt.toNat) (S 77 x3.toInt.toNat) S) 79 x2.toInt.toNat) ||| ((Int32.ofInt 1) <<< (x3 &&& 31)))) R _
            refine u_st rfl (fun _ => rfl) ?_
            show u_P L xs m d m_X4_learnOdds 78 [(0, .ref 77), (1, .ref 2), (2, .int x2), (3, .int x3)] [.ref 77] (z_s (g_X3_atOdds c 1 (S 77 x2.toInt.toNat) (S 77 x3.toInt.toNat) S) 79 x2.toInt.toNat (((g_X3_atOdds c 1 (S 77 x2.toInt.toNat) (S 77 x3.toInt.toNat) S) 79 x2.toInt.toNat) ||| ((Int32.ofInt 1) <<< (x3 &&& 31)))) R _
            refine u_getr rfl rfl rfl ?_
            refine u_st rfl (fun _ => rfl) ?_
            refine u_st rfl (fun _ => rfl) ?_
            show u_P L xs m d m_X4_learnOdds 83 [(0, .ref 77), (1, .ref 2), (2, .int x2), (3, .int x3)] [.int x3, .ref 80, .int x3, .ref 80] (z_s (g_X3_atOdds c 1 (S 77 x2.toInt.toNat) (S 77 x3.toInt.toNat) S) 79 x2.toInt.toNat (((g_X3_atOdds c 1 (S 77 x2.toInt.toNat) (S 77 x3.toInt.toNat) S) 79 x2.toInt.toNat) ||| ((Int32.ofInt 1) <<< (x3 &&& 31)))) R _
            refine u_ialdE (v := (z_s (g_X3_atOdds c 1 (S 77 x2.toInt.toNat) (S 77 x3.toInt.toNat) S) 79 x2.toInt.toNat (((g_X3_atOdds c 1 (S 77 x2.toInt.toNat) (S 77 x3.toInt.toNat) S) 79 x2.toInt.toNat) ||| ((Int32.ofInt 1) <<< (x3 &&& 31)))) 79 x3.toInt.toNat) rfl rfl rfl (fun b81 b82 => ?_)
            have hD := hD b81 b82
            show u_P L xs m d m_X4_learnOdds 84 [(0, .ref 77), (1, .ref 2), (2, .int x2), (3, .int x3)] [.int ((z_s (g_X3_atOdds c 1 (S 77 x2.toInt.toNat) (S 77 x3.toInt.toNat) S) 79 x2.toInt.toNat (((g_X3_atOdds c 1 (S 77 x2.toInt.toNat) (S 77 x3.toInt.toNat) S) 79 x2.toInt.toNat) ||| ((Int32.ofInt 1) <<< (x3 &&& 31)))) 79 x3.toInt.toNat), .int x3, .ref 80] (z_s (g_X3_atOdds c 1 (S 77 x2.toInt.toNat) (S 77 x3.toInt.toNat) S) 79 x2.toInt.toNat (((g_X3_atOdds c 1 (S 77 x2.toInt.toNat) (S 77 x3.toInt.toNat) S) 79 x2.toInt.toNat) ||| ((Int32.ofInt 1) <<< (x3 &&& 31)))) R _
            refine u_st rfl (fun _ => rfl) ?_
            refine u_st rfl (fun _ => rfl) ?_
            refine u_st rfl (fun _ => rfl) ?_
            refine u_st rfl (fun _ => rfl) ?_
            show u_P L xs m d m_X4_learnOdds 88 [(0, .ref 77), (1, .ref 2), (2, .int x2), (3, .int x3)] [.int (((z_s (g_X3_atOdds c 1 (S 77 x2.toInt.toNat) (S 77 x3.toInt.toNat) S) 79 x2.toInt.toNat (((g_X3_atOdds c 1 (S 77 x2.toInt.toNat) (S 77 x3.toInt.toNat) S) 79 x2.toInt.toNat) ||| ((Int32.ofInt 1) <<< (x3 &&& 31)))) 79 x3.toInt.toNat) ||| ((Int32.ofInt 1) <<< (x2 &&& 31))), .int x3, .ref 80] (z_s (g_X3_atOdds c 1 (S 77 x2.toInt.toNat) (S 77 x3.toInt.toNat) S) 79 x2.toInt.toNat (((g_X3_atOdds c 1 (S 77 x2.toInt.toNat) (S 77 x3.toInt.toNat) S) 79 x2.toInt.toNat) ||| ((Int32.ofInt 1) <<< (x3 &&& 31)))) R _
            refine u_iast rfl rfl (fun b91 b92 => ?_)
            have hD := hD b91 b92
            show u_P L xs m d m_X4_learnOdds 89 [(0, .ref 77), (1, .ref 2), (2, .int x2), (3, .int x3)] [] (z_s (z_s (g_X3_atOdds c 1 (S 77 x2.toInt.toNat) (S 77 x3.toInt.toNat) S) 79 x2.toInt.toNat (((g_X3_atOdds c 1 (S 77 x2.toInt.toNat) (S 77 x3.toInt.toNat) S) 79 x2.toInt.toNat) ||| ((Int32.ofInt 1) <<< (x3 &&& 31)))) 79 x3.toInt.toNat (((z_s (g_X3_atOdds c 1 (S 77 x2.toInt.toNat) (S 77 x3.toInt.toNat) S) 79 x2.toInt.toNat (((g_X3_atOdds c 1 (S 77 x2.toInt.toNat) (S 77 x3.toInt.toNat) S) 79 x2.toInt.toNat) ||| ((Int32.ofInt 1) <<< (x3 &&& 31)))) 79 x3.toInt.toNat) ||| ((Int32.ofInt 1) <<< (x2 &&& 31)))) R _
            refine u_st rfl (fun _ => rfl) ?_
            refine u_st rfl (fun _ => rfl) ?_
            refine u_lc (b := [(0, .ref 77), (1, .ref 2), (2, .int x2), (3, .int (x3 + (Int32.ofInt 1)))]) (show ([3, 0, 1, 2] : List Nat).Nodup by decide) (show ([0, 1, 2, 3] : List Nat).Nodup by decide) (fun i => match i with | 0 => rfl | 1 => rfl | 2 => rfl | 3 => rfl | _ + 4 => rfl) ?_
            exact (ih m hm).2.2 d x2 (x3 + (Int32.ofInt 1)) (z_s (z_s (g_X3_atOdds c 1 (S 77 x2.toInt.toNat) (S 77 x3.toInt.toNat) S) 79 x2.toInt.toNat (((g_X3_atOdds c 1 (S 77 x2.toInt.toNat) (S 77 x3.toInt.toNat) S) 79 x2.toInt.toNat) ||| ((Int32.ofInt 1) <<< (x3 &&& 31)))) 79 x3.toInt.toNat (((z_s (g_X3_atOdds c 1 (S 77 x2.toInt.toNat) (S 77 x3.toInt.toNat) S) 79 x2.toInt.toNat (((g_X3_atOdds c 1 (S 77 x2.toInt.toNat) (S 77 x3.toInt.toNat) S) 79 x2.toInt.toNat) ||| ((Int32.ofInt 1) <<< (x3 &&& 31)))) 79 x3.toInt.toNat) ||| ((Int32.ofInt 1) <<< (x2 &&& 31)))) hD
set_option maxRecDepth 4000 in
theorem w_X4_learnOdds (L : Nat) (xs : Nat → Int32) {R : v_Rf} (hW : z_W R) {c : Nat} (hL : R 50 2 = some (c + 1)) (hc : z_cd c) (H10 : Int32 → v_Sf → Prop) (H28 : Int32 → Int32 → v_Sf → Prop) (K : v_Sf → Prop) (k10 : ∀ (x2 : Int32) (S : v_Sf), H10 x2 S → D_X4_learnOdds_10 c H10 H28 K x2 S) (k28 : ∀ (x2 : Int32) (x3 : Int32) (S : v_Sf), H28 x2 x3 S → D_X4_learnOdds_28 c H10 H28 K x2 x3 S) (n d : Nat) (S : v_Sf) (hD : D_X4_learnOdds c H10 H28 K S) : u_P L xs n d m_X4_learnOdds 0 (lv_args 0 [.ref 77, .ref 2]) [] S R (z_V R K) := by
  unfold D_X4_learnOdds at hD
  show u_P L xs n d m_X4_learnOdds 0 [(0, .ref 77), (1, .ref 2)] [] S R _
  refine u_st rfl (fun _ => rfl) ?_
  show u_P L xs n d m_X4_learnOdds 1 [(0, .ref 77), (1, .ref 2)] [.ref 77] S R _
  refine u_getr rfl rfl rfl ?_
  refine u_st rfl (fun _ => rfl) ?_
  show u_P L xs n d m_X4_learnOdds 5 [(0, .ref 77), (1, .ref 2)] [.int (Int32.ofInt 0), .ref 80] S R _
  refine u_cs (ac := [.ref 80, .int (Int32.ofInt 0)]) (rest := []) rfl (by decide) mt_J7_fill_53178 (fun _ => rfl) (Nat.le_of_ble_eq_true rfl) (Nat.le_of_ble_eq_true rfl) (fun d' => c_fill79 L xs n d' (Int32.ofInt 0) S R) ?_
  rintro _ _ _ ⟨rfl, rfl, rfl⟩
  refine u_st rfl (fun _ => rfl) ?_
  refine u_st rfl (fun _ => rfl) ?_
  refine u_lc (b := [(0, .ref 77), (1, .ref 2), (2, .int (Int32.ofInt 0))]) (show ([2, 0, 1] : List Nat).Nodup by decide) (show ([0, 1, 2] : List Nat).Nodup by decide) (fun i => match i with | 0 => rfl | 1 => rfl | 2 => rfl | _ + 3 => rfl) ?_
  exact (hd_X4_learnOdds L xs hW hL hc H10 H28 K k10 k28 n).1 d (Int32.ofInt 0) (g_fill79 (Int32.ofInt 0) S) hD
noncomputable def r_X4_learnOdds_28 (c : Nat) (κ10 : v_Sf → v_Sf) (k10 : Nat) : Nat → Nat → v_Sf → v_Sf
  | 0, k28, S => κ10 S
  | r + 1, k28, S => (if (S 76 4) ≤ (z_i k28) then κ10 S else (if (Int32.ofInt 8) ≤ (z_i k28) then κ10 S else (if (f_X3_atOdds c 1 (S 77 (z_i k10).toInt.toNat) (S 77 (z_i k28).toInt.toNat) S) = 0 then r_X4_learnOdds_28 c κ10 k10 r (k28 + 1) (g_X3_atOdds c 1 (S 77 (z_i k10).toInt.toNat) (S 77 (z_i k28).toInt.toNat) S) else r_X4_learnOdds_28 c κ10 k10 r (k28 + 1) (z_s (z_s (g_X3_atOdds c 1 (S 77 (z_i k10).toInt.toNat) (S 77 (z_i k28).toInt.toNat) S) 79 (z_i k10).toInt.toNat (((g_X3_atOdds c 1 (S 77 (z_i k10).toInt.toNat) (S 77 (z_i k28).toInt.toNat) S) 79 (z_i k10).toInt.toNat) ||| ((Int32.ofInt 1) <<< ((z_i k28) &&& 31)))) 79 (z_i k28).toInt.toNat (((z_s (g_X3_atOdds c 1 (S 77 (z_i k10).toInt.toNat) (S 77 (z_i k28).toInt.toNat) S) 79 (z_i k10).toInt.toNat (((g_X3_atOdds c 1 (S 77 (z_i k10).toInt.toNat) (S 77 (z_i k28).toInt.toNat) S) 79 (z_i k10).toInt.toNat) ||| ((Int32.ofInt 1) <<< ((z_i k28) &&& 31)))) 79 (z_i k28).toInt.toNat) ||| ((Int32.ofInt 1) <<< ((z_i k10) &&& 31)))))))
theorem r8_X4_learnOdds_28 {c : Nat} {κ10 : v_Sf → v_Sf} {k10 : Nat} {k : Nat} (h : 8 ≤ k) (h2 : k ≤ 8) {S : v_Sf} : r_X4_learnOdds_28 c κ10 k10 0 k S = r_X4_learnOdds_28 c κ10 k10 (0 + 1) k S := by
  rw [r_X4_learnOdds_28, r_X4_learnOdds_28]
  by_cases q : (S 76 4) ≤ (z_i k)
  · rw [if_pos q]
  · rw [if_neg q, if_pos (z_8le h h2)]
noncomputable def r_X4_learnOdds_10 (c : Nat) : Nat → Nat → v_Sf → v_Sf
  | 0, k10, S => S
  | r + 1, k10, S => (if (S 76 4) ≤ (z_i k10) then S else (if (Int32.ofInt 8) ≤ (z_i k10) then S else r_X4_learnOdds_28 c (fun S => r_X4_learnOdds_10 c r (k10 + 1) S) k10 (8 - (k10 + 1)) (k10 + 1) S))
theorem r8_X4_learnOdds_10 {c : Nat} {k : Nat} (h : 8 ≤ k) (h2 : k ≤ 8) {S : v_Sf} : r_X4_learnOdds_10 c 0 k S = r_X4_learnOdds_10 c (0 + 1) k S := by
  rw [r_X4_learnOdds_10, r_X4_learnOdds_10]
  by_cases q : (S 76 4) ≤ (z_i k)
  · rw [if_pos q]
  · rw [if_neg q, if_pos (z_8le h h2)]
noncomputable def F_X4_learnOdds (c : Nat) (S : v_Sf) : v_Sf := r_X4_learnOdds_10 c (8 - 0) 0 (g_fill79 (Int32.ofInt 0) S)
noncomputable def g_X4_learnOdds (c : Nat) (S : v_Sf) : v_Sf := F_X4_learnOdds c S
theorem c_X4_learnOdds (L : Nat) (xs : Nat → Int32) (n d : Nat) {R : v_Rf} (hW : z_W R) {c : Nat} (hL : R 50 2 = some (c + 1)) (hc : z_cd c) (S : v_Sf) : u_P L xs n d m_X4_learnOdds 0 (lv_args 0 [.ref 77, .ref 2]) [] S R (z_V R (fun S1 => g_X4_learnOdds c S = S1)) := by
  refine w_X4_learnOdds L xs hW hL hc (fun y2 T => ∃ (k10 : Nat), k10 ≤ 8 ∧ z_i k10 = y2 ∧ r_X4_learnOdds_10 c (8 - k10) k10 T = F_X4_learnOdds c S) (fun y2 y3 T => ∃ (k10 k28 : Nat), k28 ≤ 8 ∧ z_i k28 = y3 ∧ k10 ≤ 7 ∧ k10 ≤ 7 ∧ z_i k10 = y2 ∧ r_X4_learnOdds_28 c (fun V => r_X4_learnOdds_10 c (8 - (k10 + 1)) (k10 + 1) V) k10 (8 - k28) k28 T = F_X4_learnOdds c S) (fun S1 => g_X4_learnOdds c S = S1) ?_ ?_ n d S ?_
  · rintro _ S1 ⟨k10, hkk, rfl, e⟩
    unfold D_X4_learnOdds_10
    rcases Nat.lt_or_ge k10 (8) with hk | hk
    · rw [show 8 - k10 = (8 - (k10 + 1)) + 1 by omega, r_X4_learnOdds_10] at e
      refine ⟨fun q1 => ?_, fun q1 => ?_⟩
      · rw [if_pos q1] at e
        exact e.symm
      · refine ⟨fun q2 => ?_, fun q2 => ?_⟩
        · rw [if_neg q1, if_pos q2] at e
          exact e.symm
        · rw [if_neg q1, if_neg q2] at e
          exact ⟨k10, (k10 + 1), by omega, (z_i1 k10).symm, by omega, by omega, rfl, e⟩
    · rw [show 8 - k10 = 0 by omega, r8_X4_learnOdds_10 hk hkk, r_X4_learnOdds_10] at e
      refine ⟨fun q1 => ?_, fun q1 => ?_⟩
      · rw [if_pos q1] at e
        exact e.symm
      · refine ⟨fun q2 => ?_, fun q2 => ?_⟩
        · rw [if_neg q1, if_pos q2] at e
          exact e.symm
        · exact absurd (z_8le hk hkk) q2
  · rintro _ _ S1 ⟨k10, k28, hkk, rfl, hk10, hz10, rfl, e⟩
    unfold D_X4_learnOdds_28
    rcases Nat.lt_or_ge k28 (8) with hk | hk
    · rw [show 8 - k28 = (8 - (k28 + 1)) + 1 by omega, r_X4_learnOdds_28] at e
      refine ⟨fun q3 => ?_, fun q3 => ?_⟩
      · rw [if_pos q3] at e
        exact ⟨(k10 + 1), by omega, (z_i1 k10).symm, e⟩
      · refine ⟨fun q4 => ?_, fun q4 => ?_⟩
        · rw [if_neg q3, if_pos q4] at e
          exact ⟨(k10 + 1), by omega, (z_i1 k10).symm, e⟩
        · intro _ _
          intro _ _
          refine ⟨fun q5 => ?_, fun q5 => ?_⟩
          · rw [if_neg q3, if_neg q4, if_pos q5] at e
            exact ⟨k10, (k28 + 1), by omega, (z_i1 k28).symm, by omega, by omega, rfl, e⟩
          · intro _ _
            intro _ _
            intro _ _
            intro _ _
            rw [if_neg q3, if_neg q4, if_neg q5] at e
            exact ⟨k10, (k28 + 1), by omega, (z_i1 k28).symm, by omega, by omega, rfl, e⟩
    · rw [show 8 - k28 = 0 by omega, r8_X4_learnOdds_28 hk hkk, r_X4_learnOdds_28] at e
      refine ⟨fun q3 => ?_, fun q3 => ?_⟩
      · rw [if_pos q3] at e
        exact ⟨(k10 + 1), by omega, (z_i1 k10).symm, e⟩
      · refine ⟨fun q4 => ?_, fun q4 => ?_⟩
        · rw [if_neg q3, if_pos q4] at e
          exact ⟨(k10 + 1), by omega, (z_i1 k10).symm, e⟩
        · exact absurd (z_8le hk hkk) q4
  · unfold D_X4_learnOdds
    have e : r_X4_learnOdds_10 c (8 - 0) 0 (g_fill79 (Int32.ofInt 0) S) = F_X4_learnOdds c S := by rw [F_X4_learnOdds]
    exact ⟨0, by omega, rfl, e⟩
noncomputable abbrev m_X11_housed : g_M := (g_cn 11, yX11_housed, cX11_housed, 6, (some .int), g_look2 ttX11_housed)
set_option maxRecDepth 20000 in
theorem mt_X11_housed : g_mt 134 = some m_X11_housed := rfl
noncomputable abbrev m_X11_nursed : g_M := (g_cn 11, yX11_nursed, cX11_nursed, 5, (some .int), g_look2 ttX11_nursed)
set_option maxRecDepth 20000 in
theorem mt_X11_nursed : g_mt 142 = some m_X11_nursed := rfl
end PrtS42ya
section PrtS42yb
noncomputable abbrev m_X12_housed : g_M := (g_cn 12, yX12_housed, cX12_housed, 9, (some .int), g_look2 ttX12_housed)
set_option maxRecDepth 20000 in
theorem mt_X12_housed : g_mt 259 = some m_X12_housed := rfl
end PrtS42yb
