section PrtS42t
noncomputable def D_X12_clause_25  (H25 : Int32 → Int32 → v_Sf → Prop) (H37 : Int32 → Int32 → v_Sf → Prop) (H64 : Int32 → Int32 → v_Sf → Prop) (H143 : v_Sf → Prop) (H167 : v_Sf → Prop) (K : v_Sf → Prop) (x1 : Int32) (x2 : Int32) (S : v_Sf) : Prop := H64 x1 x2 (g_X12_wrongs (Int32.ofInt 1) (S 99 3) S)
noncomputable def D_X12_clause_37  (H25 : Int32 → Int32 → v_Sf → Prop) (H37 : Int32 → Int32 → v_Sf → Prop) (H64 : Int32 → Int32 → v_Sf → Prop) (H143 : v_Sf → Prop) (H167 : v_Sf → Prop) (K : v_Sf → Prop) (x1 : Int32) (x2 : Int32) (S : v_Sf) : Prop := ((x1 = 0 → (((¬ (S 99 6) = (Int32.ofInt 16)) → H64 x1 x2 S) ∧ (¬ (¬ (S 99 6) = (Int32.ofInt 16)) → H64 x1 x2 (g_X12_wrongs (Int32.ofInt 4) (S 99 3) S)))) ∧ (¬ (x1 = 0) → (((¬ (S 99 6) = (Int32.ofInt 12)) → H64 x1 x2 S) ∧ (¬ (¬ (S 99 6) = (Int32.ofInt 12)) → H64 x1 x2 (g_X12_wrongs (Int32.ofInt 4) (S 99 3) S)))))
noncomputable def D_X12_clause_64  (H25 : Int32 → Int32 → v_Sf → Prop) (H37 : Int32 → Int32 → v_Sf → Prop) (H64 : Int32 → Int32 → v_Sf → Prop) (H143 : v_Sf → Prop) (H167 : v_Sf → Prop) (K : v_Sf → Prop) (x1 : Int32) (x2 : Int32) (S : v_Sf) : Prop := (((¬ (f_X12_isGood S) = 0) → (0 ≤ (S 99 6).toInt → (S 99 6).toInt < 16 → (0 ≤ (S 99 6).toInt → (S 99 6).toInt < 16 → ((x1 = 0 → ((x2 = (Int32.ofInt 101) → H143 (z_s (z_s (z_s (z_s (z_s S 107 ((S 99 6).toInt.toNat) x2) 108 ((S 99 6).toInt.toNat) (S 99 7)) 99 3 ((S 99 3) + (Int32.ofInt 1))) 99 9 (Int32.ofInt 0)) 99 8 (Int32.ofInt 0))) ∧ (¬ (x2 = (Int32.ofInt 101)) → ((x2 = (Int32.ofInt 120) → H143 (z_s (z_s (z_s (z_s (z_s S 107 ((S 99 6).toInt.toNat) x2) 108 ((S 99 6).toInt.toNat) (S 99 7)) 99 3 ((S 99 3) + (Int32.ofInt 1))) 99 9 (Int32.ofInt 0)) 99 8 (Int32.ofInt 0))) ∧ (¬ (x2 = (Int32.ofInt 120)) → H143 (g_X12_value (z_s (z_s (z_s (z_s (z_s S 107 ((S 99 6).toInt.toNat) x2) 108 ((S 99 6).toInt.toNat) (S 99 7)) 99 3 ((S 99 3) + (Int32.ofInt 1))) 99 9 (Int32.ofInt 0)) 99 8 (Int32.ofInt 0)))))))) ∧ (¬ (x1 = 0) → H143 (z_s (z_s (z_s (z_s (z_s S 107 ((S 99 6).toInt.toNat) x2) 108 ((S 99 6).toInt.toNat) (S 99 7)) 99 3 ((S 99 3) + (Int32.ofInt 0))) 99 9 (Int32.ofInt 0)) 99 8 (Int32.ofInt 0))))))) ∧ (¬ (¬ (f_X12_isGood S) = 0) → K S))
noncomputable def D_X12_clause_143  (H25 : Int32 → Int32 → v_Sf → Prop) (H37 : Int32 → Int32 → v_Sf → Prop) (H64 : Int32 → Int32 → v_Sf → Prop) (H143 : v_Sf → Prop) (H167 : v_Sf → Prop) (K : v_Sf → Prop)  (S : v_Sf) : Prop := (0 ≤ (S 99 6).toInt → (S 99 6).toInt < 16 → (((f_X12_isGood (z_s S 109 ((S 99 6).toInt.toNat) (S 99 7))) = 0 → H167 (z_s S 109 ((S 99 6).toInt.toNat) (S 99 7))) ∧ (¬ ((f_X12_isGood (z_s S 109 ((S 99 6).toInt.toNat) (S 99 7))) = 0) → H167 (g_X12_condition (z_s S 109 ((S 99 6).toInt.toNat) (S 99 7))))))
noncomputable def D_X12_clause_167  (H25 : Int32 → Int32 → v_Sf → Prop) (H37 : Int32 → Int32 → v_Sf → Prop) (H64 : Int32 → Int32 → v_Sf → Prop) (H143 : v_Sf → Prop) (H167 : v_Sf → Prop) (K : v_Sf → Prop)  (S : v_Sf) : Prop := (0 ≤ (S 99 6).toInt → (S 99 6).toInt < 16 → K (z_s (z_s S 110 ((S 99 6).toInt.toNat) (S 99 7)) 99 6 ((S 99 6) + (Int32.ofInt 1))))
noncomputable def D_X12_clause (a : Int32) (H25 : Int32 → Int32 → v_Sf → Prop) (H37 : Int32 → Int32 → v_Sf → Prop) (H64 : Int32 → Int32 → v_Sf → Prop) (H143 : v_Sf → Prop) (H167 : v_Sf → Prop) (K : v_Sf → Prop) (S : v_Sf) : Prop := ((a = 0 → (((¬ (f_X12_isClause (f_X12_here S)) = 0) → H37 a (f_X12_here S) S) ∧ (¬ (¬ (f_X12_isClause (f_X12_here S)) = 0) → H25 a (f_X12_here S) S))) ∧ (¬ (a = 0) → (((f_X12_here S) = (Int32.ofInt 40) → H37 a (f_X12_here S) S) ∧ (¬ ((f_X12_here S) = (Int32.ofInt 40)) → H25 a (f_X12_here S) S))))
set_option maxRecDepth 4000 in
theorem hd_X12_clause (L : Nat) (xs : Nat → Int32) {R : v_Rf} (a : Int32) (H25 : Int32 → Int32 → v_Sf → Prop) (H37 : Int32 → Int32 → v_Sf → Prop) (H64 : Int32 → Int32 → v_Sf → Prop) (H143 : v_Sf → Prop) (H167 : v_Sf → Prop) (K : v_Sf → Prop) (k25 : ∀ (x1 : Int32) (x2 : Int32) (S : v_Sf), H25 x1 x2 S → D_X12_clause_25 H25 H37 H64 H143 H167 K x1 x2 S) (k37 : ∀ (x1 : Int32) (x2 : Int32) (S : v_Sf), H37 x1 x2 S → D_X12_clause_37 H25 H37 H64 H143 H167 K x1 x2 S) (k64 : ∀ (x1 : Int32) (x2 : Int32) (S : v_Sf), H64 x1 x2 S → D_X12_clause_64 H25 H37 H64 H143 H167 K x1 x2 S) (k143 : ∀  (S : v_Sf), H143  S → D_X12_clause_143 H25 H37 H64 H143 H167 K S) (k167 : ∀  (S : v_Sf), H167  S → D_X12_clause_167 H25 H37 H64 H143 H167 K S) : ∀ n, (∀ (d : Nat) (x1 : Int32) (x2 : Int32) (S : v_Sf), H25 x1 x2 S → u_P L xs n d m_X12_clause 25 [(0, .ref 100), (1, .int x1), (2, .int x2)] [] S R (z_V R K)) ∧ (∀ (d : Nat) (x1 : Int32) (x2 : Int32) (S : v_Sf), H37 x1 x2 S → u_P L xs n d m_X12_clause 37 [(0, .ref 100), (1, .int x1), (2, .int x2)] [] S R (z_V R K)) ∧ (∀ (d : Nat) (x1 : Int32) (x2 : Int32) (S : v_Sf), H64 x1 x2 S → u_P L xs n d m_X12_clause 64 [(0, .ref 100), (1, .int x1), (2, .int x2)] [] S R (z_V R K)) ∧ (∀ (d : Nat) (j1 : Int32) (j2 : Int32) (S : v_Sf), H143  S → u_P L xs n d m_X12_clause 143 [(0, .ref 100), (1, .int j1), (2, .int j2)] [] S R (z_V R K)) ∧ (∀ (d : Nat) (j1 : Int32) (j2 : Int32) (S : v_Sf), H167  S → u_P L xs n d m_X12_clause 167 [(0, .ref 100), (1, .int j1), (2, .int j2)] [] S R (z_V R K)) := by
  intro n
  induction n using Nat.strongRecOn with
  | ind n ih =>
    refine ⟨?_, ?_, ?_, ?_, ?_⟩
    · intro d x1 x2 S hD
      have hD := k25 x1 x2 S hD
      unfold D_X12_clause_25 at hD
      show u_P L xs n d m_X12_clause 25 [(0, .ref 100), (1, .int x1), (2, .int x2)] [] S R _
      refine u_st1 rfl (fun _ => rfl) (fun m hm => ?_)
      refine u_st rfl (fun _ => rfl) ?_
      refine u_st rfl (fun _ => rfl) ?_
      show u_P L xs m d m_X12_clause 28 [(0, .ref 100), (1, .int x1), (2, .int x2)] [.ref 100, .int (Int32.ofInt 1), .ref 100] S R _
      refine u_getE (v := S 99 3) rfl v_tyM rfl rfl ?_
      show u_P L xs m d m_X12_clause 31 [(0, .ref 100), (1, .int x1), (2, .int x2)] [.int (S 99 3), .int (Int32.ofInt 1), .ref 100] S R _
      refine u_cv (rest := []) rfl (by decide) mt_X12_wrongs v_tyM rfl rfl rfl (Nat.le_of_ble_eq_true rfl) (Nat.le_of_ble_eq_true rfl) (Nat.le_of_ble_eq_true rfl) (fun d' => c_X12_wrongs L xs m d' (Int32.ofInt 1) (S 99 3) S R) ?_
      rintro _ _ _ ⟨rfl, rfl, rfl⟩
      refine u_st rfl (fun _ => rfl) ?_
      exact (ih m hm).2.2.1 d x1 x2 (g_X12_wrongs (Int32.ofInt 1) (S 99 3) S) hD
    · intro d x1 x2 S hD
      have hD := k37 x1 x2 S hD
      unfold D_X12_clause_37 at hD
      show u_P L xs n d m_X12_clause 37 [(0, .ref 100), (1, .int x1), (2, .int x2)] [] S R _
      refine u_st1 rfl (fun _ => rfl) (fun m hm => ?_)
      show u_P L xs m d m_X12_clause 38 [(0, .ref 100), (1, .int x1), (2, .int x2)] [.ref 100] S R _
      refine u_getE (v := S 99 6) rfl v_tyM rfl rfl ?_
      refine u_st rfl (fun _ => rfl) ?_
      show u_P L xs m d m_X12_clause 42 [(0, .ref 100), (1, .int x1), (2, .int x2)] [.int x1, .int (S 99 6)] S R _
      refine u_if_eq rfl (fun h1 => ?_) (fun h1 => ?_)
      · have hD := hD.1 h1
        show u_P L xs m d m_X12_clause 50 [(0, .ref 100), (1, .int x1), (2, .int x2)] [.int (S 99 6)] S R _
        refine u_st rfl (fun _ => rfl) ?_
        show u_P L xs m d m_X12_clause 52 [(0, .ref 100), (1, .int x1), (2, .int x2)] [.int (Int32.ofInt 16), .int (S 99 6)] S R _
        refine u_ic_ne rfl (fun h2 => ?_) (fun h2 => ?_)
        · have hD := hD.1 h2
          exact (ih m hm).2.2.1 d x1 x2 S hD
        · have hD := hD.2 h2
          show u_P L xs m d m_X12_clause 55 [(0, .ref 100), (1, .int x1), (2, .int x2)] [] S R _
          refine u_st rfl (fun _ => rfl) ?_
          refine u_st rfl (fun _ => rfl) ?_
          refine u_st rfl (fun _ => rfl) ?_
          show u_P L xs m d m_X12_clause 58 [(0, .ref 100), (1, .int x1), (2, .int x2)] [.ref 100, .int (Int32.ofInt 4), .ref 100] S R _
          refine u_getE (v := S 99 3) rfl v_tyM rfl rfl ?_
          show u_P L xs m d m_X12_clause 61 [(0, .ref 100), (1, .int x1), (2, .int x2)] [.int (S 99 3), .int (Int32.ofInt 4), .ref 100] S R _
          refine u_cv (rest := []) rfl (by decide) mt_X12_wrongs v_tyM rfl rfl rfl (Nat.le_of_ble_eq_true rfl) (Nat.le_of_ble_eq_true rfl) (Nat.le_of_ble_eq_true rfl) (fun d' => c_X12_wrongs L xs m d' (Int32.ofInt 4) (S 99 3) S R) ?_
          rintro _ _ _ ⟨rfl, rfl, rfl⟩
          exact (ih m hm).2.2.1 d x1 x2 (g_X12_wrongs (Int32.ofInt 4) (S 99 3) S) hD
      · have hD := hD.2 h1
        show u_P L xs m d m_X12_clause 45 [(0, .ref 100), (1, .int x1), (2, .int x2)] [.int (S 99 6)] S R _
        refine u_st rfl (fun _ => rfl) ?_
        refine u_st rfl (fun _ => rfl) ?_
        show u_P L xs m d m_X12_clause 52 [(0, .ref 100), (1, .int x1), (2, .int x2)] [.int (Int32.ofInt 12), .int (S 99 6)] S R _
        refine u_ic_ne rfl (fun h3 => ?_) (fun h3 => ?_)
        · have hD := hD.1 h3
          exact (ih m hm).2.2.1 d x1 x2 S hD
        · have hD := hD.2 h3
          show u_P L xs m d m_X12_clause 55 [(0, .ref 100), (1, .int x1), (2, .int x2)] [] S R _
          refine u_st rfl (fun _ => rfl) ?_
          refine u_st rfl (fun _ => rfl) ?_
          refine u_st rfl (fun _ => rfl) ?_
          show u_P L xs m d m_X12_clause 58 [(0, .ref 100), (1, .int x1), (2, .int x2)] [.ref 100, .int (Int32.ofInt 4), .ref 100] S R _
          refine u_getE (v := S 99 3) rfl v_tyM rfl rfl ?_
          show u_P L xs m d m_X12_clause 61 [(0, .ref 100), (1, .int x1), (2, .int x2)] [.int (S 99 3), .int (Int32.ofInt 4), .ref 100] S R _
          refine u_cv (rest := []) rfl (by decide) mt_X12_wrongs v_tyM rfl rfl rfl (Nat.le_of_ble_eq_true rfl) (Nat.le_of_ble_eq_true rfl) (Nat.le_of_ble_eq_true rfl) (fun d' => c_X12_wrongs L xs m d' (Int32.ofInt 4) (S 99 3) S R) ?_
          rintro _ _ _ ⟨rfl, rfl, rfl⟩
          exact (ih m hm).2.2.1 d x1 x2 (g_X12_wrongs (Int32.ofInt 4) (S 99 3) S) hD
    · intro d x1 x2 S hD
      have hD := k64 x1 x2 S hD
      unfold D_X12_clause_64 at hD
      show u_P L xs n d m_X12_clause 64 [(0, .ref 100), (1, .int x1), (2, .int x2)] [] S R _
      refine u_st1 rfl (fun _ => rfl) (fun m hm => ?_)
      show u_P L xs m d m_X12_clause 65 [(0, .ref 100), (1, .int x1), (2, .int x2)] [.ref 100] S R _
      refine u_cv (rest := []) rfl (by decide) mt_X12_isGood v_tyM rfl rfl rfl (Nat.le_of_ble_eq_true rfl) (Nat.le_of_ble_eq_true rfl) (Nat.le_of_ble_eq_true rfl) (fun d' => c_X12_isGood L xs m d' S R) ?_
      rintro _ _ _ ⟨_, rfl, rfl, rfl, rfl⟩
      show u_P L xs m d m_X12_clause 68 [(0, .ref 100), (1, .int x1), (2, .int x2)] [.int (f_X12_isGood S)] S R _
      refine u_if_ne rfl (fun h1 => ?_) (fun h1 => ?_)
      · have hD := hD.1 h1
        show u_P L xs m d m_X12_clause 72 [(0, .ref 100), (1, .int x1), (2, .int x2)] [] S R _
        refine u_st rfl (fun _ => rfl) ?_
        show u_P L xs m d m_X12_clause 73 [(0, .ref 100), (1, .int x1), (2, .int x2)] [.ref 100] S R _
        refine u_getr rfl v_tyM rfl ?_
        refine u_st rfl (fun _ => rfl) ?_
        show u_P L xs m d m_X12_clause 77 [(0, .ref 100), (1, .int x1), (2, .int x2)] [.ref 100, .ref 108] S R _
        refine u_getE (v := S 99 6) rfl v_tyM rfl rfl ?_
        refine u_st rfl (fun _ => rfl) ?_
        show u_P L xs m d m_X12_clause 81 [(0, .ref 100), (1, .int x1), (2, .int x2)] [.int x2, .int (S 99 6), .ref 108] S R _
        refine u_iast rfl rfl (fun b21 b22 => ?_)
        have hD := hD b21 b22
        show u_P L xs m d m_X12_clause 82 [(0, .ref 100), (1, .int x1), (2, .int x2)] [] (z_s S 107 ((S 99 6).toInt.toNat) x2) R _
        refine u_st rfl (fun _ => rfl) ?_
        show u_P L xs m d m_X12_clause 83 [(0, .ref 100), (1, .int x1), (2, .int x2)] [.ref 100] (z_s S 107 ((S 99 6).toInt.toNat) x2) R _
        refine u_getr rfl v_tyM rfl ?_
        refine u_st rfl (fun _ => rfl) ?_
        show u_P L xs m d m_X12_clause 87 [(0, .ref 100), (1, .int x1), (2, .int x2)] [.ref 100, .ref 109] (z_s S 107 ((S 99 6).toInt.toNat) x2) R _
        refine u_getE (v := S 99 6) rfl v_tyM rfl (z_sn (fun h => absurd h.1 (by decide))) ?_
        refine u_st rfl (fun _ => rfl) ?_
        show u_P L xs m d m_X12_clause 91 [(0, .ref 100), (1, .int x1), (2, .int x2)] [.ref 100, .int (S 99 6), .ref 109] (z_s S 107 ((S 99 6).toInt.toNat) x2) R _
        refine u_getE (v := S 99 7) rfl v_tyM rfl (z_sn (fun h => absurd h.1 (by decide))) ?_
        show u_P L xs m d m_X12_clause 94 [(0, .ref 100), (1, .int x1), (2, .int x2)] [.int (S 99 7), .int (S 99 6), .ref 109] (z_s S 107 ((S 99 6).toInt.toNat) x2) R _
        refine u_iast rfl rfl (fun b31 b32 => ?_)
        have hD := hD b31 b32
        show u_P L xs m d m_X12_clause 95 [(0, .ref 100), (1, .int x1), (2, .int x2)] [] (z_s (z_s S 107 ((S 99 6).toInt.toNat) x2) 108 ((S 99 6).toInt.toNat) (S 99 7)) R _
        refine u_st rfl (fun _ => rfl) ?_
        refine u_st rfl (fun _ => rfl) ?_
        show u_P L xs m d m_X12_clause 97 [(0, .ref 100), (1, .int x1), (2, .int x2)] [.ref 100, .ref 100] (z_s (z_s S 107 ((S 99 6).toInt.toNat) x2) 108 ((S 99 6).toInt.toNat) (S 99 7)) R _
        refine u_getE (v := S 99 3) rfl v_tyM rfl ((z_sn (fun h => absurd h.1 (by decide))).trans (z_sn (fun h => absurd h.1 (by decide)))) ?_
        refine u_st rfl (fun _ => rfl) ?_
        show u_P L xs m d m_X12_clause 101 [(0, .ref 100), (1, .int x1), (2, .int x2)] [.int x1, .int (S 99 3), .ref 100] (z_s (z_s S 107 ((S 99 6).toInt.toNat) x2) 108 ((S 99 6).toInt.toNat) (S 99 7)) R _
        refine u_if_eq rfl (fun h4 => ?_) (fun h4 => ?_)
        · have hD := hD.1 h4
          show u_P L xs m d m_X12_clause 108 [(0, .ref 100), (1, .int x1), (2, .int x2)] [.int (S 99 3), .ref 100] (z_s (z_s S 107 ((S 99 6).toInt.toNat) x2) 108 ((S 99 6).toInt.toNat) (S 99 7)) R _
          refine u_st rfl (fun _ => rfl) ?_
          refine u_st rfl (fun _ => rfl) ?_
          show u_P L xs m d m_X12_clause 110 [(0, .ref 100), (1, .int x1), (2, .int x2)] [.int ((S 99 3) + (Int32.ofInt 1)), .ref 100] (z_s (z_s S 107 ((S 99 6).toInt.toNat) x2) 108 ((S 99 6).toInt.toNat) (S 99 7)) R _
          refine u_put rfl v_tyM rfl ?_
          refine u_st rfl (fun _ => rfl) ?_
          refine u_st rfl (fun _ => rfl) ?_
          show u_P L xs m d m_X12_clause 115 [(0, .ref 100), (1, .int x1), (2, .int x2)] [.int (Int32.ofInt 0), .ref 100] (z_s (z_s (z_s S 107 ((S 99 6).toInt.toNat) x2) 108 ((S 99 6).toInt.toNat) (S 99 7)) 99 3 ((S 99 3) + (Int32.ofInt 1))) R _
          refine u_put rfl v_tyM rfl ?_
          refine u_st rfl (fun _ => rfl) ?_
          refine u_st rfl (fun _ => rfl) ?_
          show u_P L xs m d m_X12_clause 120 [(0, .ref 100), (1, .int x1), (2, .int x2)] [.int (Int32.ofInt 0), .ref 100] (z_s (z_s (z_s (z_s S 107 ((S 99 6).toInt.toNat) x2) 108 ((S 99 6).toInt.toNat) (S 99 7)) 99 3 ((S 99 3) + (Int32.ofInt 1))) 99 9 (Int32.ofInt 0)) R _
          refine u_put rfl v_tyM rfl ?_
          refine u_st rfl (fun _ => rfl) ?_
          show u_P L xs m d m_X12_clause 124 [(0, .ref 100), (1, .int x1), (2, .int x2)] [.int x1] (z_s (z_s (z_s (z_s (z_s S 107 ((S 99 6).toInt.toNat) x2) 108 ((S 99 6).toInt.toNat) (S 99 7)) 99 3 ((S 99 3) + (Int32.ofInt 1))) 99 9 (Int32.ofInt 0)) 99 8 (Int32.ofInt 0)) R _
          refine u_if_ne rfl (fun h5 => absurd h4 h5) (fun _ => ?_)
          show u_P L xs m d m_X12_clause 127 [(0, .ref 100), (1, .int x1), (2, .int x2)] [] (z_s (z_s (z_s (z_s (z_s S 107 ((S 99 6).toInt.toNat) x2) 108 ((S 99 6).toInt.toNat) (S 99 7)) 99 3 ((S 99 3) + (Int32.ofInt 1))) 99 9 (Int32.ofInt 0)) 99 8 (Int32.ofInt 0)) R _
          refine u_st rfl (fun _ => rfl) ?_
          refine u_st rfl (fun _ => rfl) ?_
          show u_P L xs m d m_X12_clause 130 [(0, .ref 100), (1, .int x1), (2, .int x2)] [.int (Int32.ofInt 101), .int x2] (z_s (z_s (z_s (z_s (z_s S 107 ((S 99 6).toInt.toNat) x2) 108 ((S 99 6).toInt.toNat) (S 99 7)) 99 3 ((S 99 3) + (Int32.ofInt 1))) 99 9 (Int32.ofInt 0)) 99 8 (Int32.ofInt 0)) R _
          refine u_ic_eq rfl (fun h6 => ?_) (fun h6 => ?_)
          · have hD := hD.1 h6
            exact (ih m hm).2.2.2.1 d x1 x2 (z_s (z_s (z_s (z_s (z_s S 107 ((S 99 6).toInt.toNat) x2) 108 ((S 99 6).toInt.toNat) (S 99 7)) 99 3 ((S 99 3) + (Int32.ofInt 1))) 99 9 (Int32.ofInt 0)) 99 8 (Int32.ofInt 0)) hD
          · have hD := hD.2 h6
            show u_P L xs m d m_X12_clause 133 [(0, .ref 100), (1, .int x1), (2, .int x2)] [] (z_s (z_s (z_s (z_s (z_s S 107 ((S 99 6).toInt.toNat) x2) 108 ((S 99 6).toInt.toNat) (S 99 7)) 99 3 ((S 99 3) + (Int32.ofInt 1))) 99 9 (Int32.ofInt 0)) 99 8 (Int32.ofInt 0)) R _
            refine u_st rfl (fun _ => rfl) ?_
            refine u_st rfl (fun _ => rfl) ?_
            show u_P L xs m d m_X12_clause 136 [(0, .ref 100), (1, .int x1), (2, .int x2)] [.int (Int32.ofInt 120), .int x2] (z_s (z_s (z_s (z_s (z_s S 107 ((S 99 6).toInt.toNat) x2) 108 ((S 99 6).toInt.toNat) (S 99 7)) 99 3 ((S 99 3) + (Int32.ofInt 1))) 99 9 (Int32.ofInt 0)) 99 8 (Int32.ofInt 0)) R _
            refine u_ic_eq rfl (fun h7 => ?_) (fun h7 => ?_)
            · have hD := hD.1 h7
              exact (ih m hm).2.2.2.1 d x1 x2 (z_s (z_s (z_s (z_s (z_s S 107 ((S 99 6).toInt.toNat) x2) 108 ((S 99 6).toInt.toNat) (S 99 7)) 99 3 ((S 99 3) + (Int32.ofInt 1))) 99 9 (Int32.ofInt 0)) 99 8 (Int32.ofInt 0)) hD
            · have hD := hD.2 h7
              show u_P L xs m d m_X12_clause 139 [(0, .ref 100), (1, .int x1), (2, .int x2)] [] (z_s (z_s (z_s (z_s (z_s S 107 ((S 99 6).toInt.toNat) x2) 108 ((S 99 6).toInt.toNat) (S 99 7)) 99 3 ((S 99 3) + (Int32.ofInt 1))) 99 9 (Int32.ofInt 0)) 99 8 (Int32.ofInt 0)) R _
              refine u_st rfl (fun _ => rfl) ?_
              show u_P L xs m d m_X12_clause 140 [(0, .ref 100), (1, .int x1), (2, .int x2)] [.ref 100] (z_s (z_s (z_s (z_s (z_s S 107 ((S 99 6).toInt.toNat) x2) 108 ((S 99 6).toInt.toNat) (S 99 7)) 99 3 ((S 99 3) + (Int32.ofInt 1))) 99 9 (Int32.ofInt 0)) 99 8 (Int32.ofInt 0)) R _
              refine u_cv (rest := []) rfl (by decide) mt_X12_value v_tyM rfl rfl rfl (Nat.le_of_ble_eq_true rfl) (Nat.le_of_ble_eq_true rfl) (Nat.le_of_ble_eq_true rfl) (fun d' => c_X12_value L xs m d' (z_s (z_s (z_s (z_s (z_s S 107 ((S 99 6).toInt.toNat) x2) 108 ((S 99 6).toInt.toNat) (S 99 7)) 99 3 ((S 99 3) + (Int32.ofInt 1))) 99 9 (Int32.ofInt 0)) 99 8 (Int32.ofInt 0)) R) ?_
              rintro _ _ _ ⟨rfl, rfl, rfl⟩
              exact (ih m hm).2.2.2.1 d x1 x2 (g_X12_value (z_s (z_s (z_s (z_s (z_s S 107 ((S 99 6).toInt.toNat) x2) 108 ((S 99 6).toInt.toNat) (S 99 7)) 99 3 ((S 99 3) + (Int32.ofInt 1))) 99 9 (Int32.ofInt 0)) 99 8 (Int32.ofInt 0))) hD
        · have hD := hD.2 h4
          show u_P L xs m d m_X12_clause 104 [(0, .ref 100), (1, .int x1), (2, .int x2)] [.int (S 99 3), .ref 100] (z_s (z_s S 107 ((S 99 6).toInt.toNat) x2) 108 ((S 99 6).toInt.toNat) (S 99 7)) R _
          refine u_st rfl (fun _ => rfl) ?_
          refine u_st rfl (fun _ => rfl) ?_
          refine u_st rfl (fun _ => rfl) ?_
          show u_P L xs m d m_X12_clause 110 [(0, .ref 100), (1, .int x1), (2, .int x2)] [.int ((S 99 3) + (Int32.ofInt 0)), .ref 100] (z_s (z_s S 107 ((S 99 6).toInt.toNat) x2) 108 ((S 99 6).toInt.toNat) (S 99 7)) R _
          refine u_put rfl v_tyM rfl ?_
          refine u_st rfl (fun _ => rfl) ?_
          refine u_st rfl (fun _ => rfl) ?_
          show u_P L xs m d m_X12_clause 115 [(0, .ref 100), (1, .int x1), (2, .int x2)] [.int (Int32.ofInt 0), .ref 100] (z_s (z_s (z_s S 107 ((S 99 6).toInt.toNat) x2) 108 ((S 99 6).toInt.toNat) (S 99 7)) 99 3 ((S 99 3) + (Int32.ofInt 0))) R _
          refine u_put rfl v_tyM rfl ?_
          refine u_st rfl (fun _ => rfl) ?_
          refine u_st rfl (fun _ => rfl) ?_
          show u_P L xs m d m_X12_clause 120 [(0, .ref 100), (1, .int x1), (2, .int x2)] [.int (Int32.ofInt 0), .ref 100] (z_s (z_s (z_s (z_s S 107 ((S 99 6).toInt.toNat) x2) 108 ((S 99 6).toInt.toNat) (S 99 7)) 99 3 ((S 99 3) + (Int32.ofInt 0))) 99 9 (Int32.ofInt 0)) R _
          refine u_put rfl v_tyM rfl ?_
          refine u_st rfl (fun _ => rfl) ?_
          show u_P L xs m d m_X12_clause 124 [(0, .ref 100), (1, .int x1), (2, .int x2)] [.int x1] (z_s (z_s (z_s (z_s (z_s S 107 ((S 99 6).toInt.toNat) x2) 108 ((S 99 6).toInt.toNat) (S 99 7)) 99 3 ((S 99 3) + (Int32.ofInt 0))) 99 9 (Int32.ofInt 0)) 99 8 (Int32.ofInt 0)) R _
          refine u_if_ne rfl (fun _ => ?_) (fun h8 => absurd h4 h8)
          exact (ih m hm).2.2.2.1 d x1 x2 (z_s (z_s (z_s (z_s (z_s S 107 ((S 99 6).toInt.toNat) x2) 108 ((S 99 6).toInt.toNat) (S 99 7)) 99 3 ((S 99 3) + (Int32.ofInt 0))) 99 9 (Int32.ofInt 0)) 99 8 (Int32.ofInt 0)) hD
      · have hD := hD.2 h1
        show u_P L xs m d m_X12_clause 71 [(0, .ref 100), (1, .int x1), (2, .int x2)] [] S R _
        exact u_ret rfl rfl ⟨rfl, rfl, hD⟩
    · intro d j1 j2 S hD
      have hD := k143  S hD
      unfold D_X12_clause_143 at hD
      show u_P L xs n d m_X12_clause 143 [(0, .ref 100), (1, .int j1), (2, .int j2)] [] S R _
      refine u_st1 rfl (fun _ => rfl) (fun m hm => ?_)
      show u_P L xs m d m_X12_clause 144 [(0, .ref 100), (1, .int j1), (2, .int j2)] [.ref 100] S R _
      refine u_getr rfl v_tyM rfl ?_
      refine u_st rfl (fun _ => rfl) ?_
      show u_P L xs m d m_X12_clause 148 [(0, .ref 100), (1, .int j1), (2, .int j2)] [.ref 100, .ref 110] S R _
      refine u_getE (v := S 99 6) rfl v_tyM rfl rfl ?_
      refine u_st rfl (fun _ => rfl) ?_
      show u_P L xs m d m_X12_clause 152 [(0, .ref 100), (1, .int j1), (2, .int j2)] [.ref 100, .int (S 99 6), .ref 110] S R _
      refine u_getE (v := S 99 7) rfl v_tyM rfl rfl ?_
      show u_P L xs m d m_X12_clause 155 [(0, .ref 100), (1, .int j1), (2, .int j2)] [.int (S 99 7), .int (S 99 6), .ref 110] S R _
      refine u_iast rfl rfl (fun b11 b12 => ?_)
      have hD := hD b11 b12
      show u_P L xs m d m_X12_clause 156 [(0, .ref 100), (1, .int j1), (2, .int j2)] [] (z_s S 109 ((S 99 6).toInt.toNat) (S 99 7)) R _
      refine u_st rfl (fun _ => rfl) ?_
      show u_P L xs m d m_X12_clause 157 [(0, .ref 100), (1, .int j1), (2, .int j2)] [.ref 100] (z_s S 109 ((S 99 6).toInt.toNat) (S 99 7)) R _
      refine u_cv (rest := []) rfl (by decide) mt_X12_isGood v_tyM rfl rfl rfl (Nat.le_of_ble_eq_true rfl) (Nat.le_of_ble_eq_true rfl) (Nat.le_of_ble_eq_true rfl) (fun d' => c_X12_isGood L xs m d' (z_s S 109 ((S 99 6).toInt.toNat) (S 99 7)) R) ?_
      rintro _ _ _ ⟨_, rfl, rfl, rfl, rfl⟩
      show u_P L xs m d m_X12_clause 160 [(0, .ref 100), (1, .int j1), (2, .int j2)] [.int (f_X12_isGood (z_s S 109 ((S 99 6).toInt.toNat) (S 99 7)))] (z_s S 109 ((S 99 6).toInt.toNat) (S 99 7)) R _
      refine u_if_eq rfl (fun h2 => ?_) (fun h2 => ?_)
      · have hD := hD.1 h2
        exact (ih m hm).2.2.2.2 d j1 j2 (z_s S 109 ((S 99 6).toInt.toNat) (S 99 7)) hD
      · have hD := hD.2 h2
        show u_P L xs m d m_X12_clause 163 [(0, .ref 100), (1, .int j1), (2, .int j2)] [] (z_s S 109 ((S 99 6).toInt.toNat) (S 99 7)) R _
        refine u_st rfl (fun _ => rfl) ?_
        show u_P L xs m d m_X12_clause 164 [(0, .ref 100), (1, .int j1), (2, .int j2)] [.ref 100] (z_s S 109 ((S 99 6).toInt.toNat) (S 99 7)) R _
        refine u_cv (rest := []) rfl (by decide) mt_X12_condition v_tyM rfl rfl rfl (Nat.le_of_ble_eq_true rfl) (Nat.le_of_ble_eq_true rfl) (Nat.le_of_ble_eq_true rfl) (fun d' => c_X12_condition L xs m d' (z_s S 109 ((S 99 6).toInt.toNat) (S 99 7)) R) ?_
        rintro _ _ _ ⟨rfl, rfl, rfl⟩
        exact (ih m hm).2.2.2.2 d j1 j2 (g_X12_condition (z_s S 109 ((S 99 6).toInt.toNat) (S 99 7))) hD
    · intro d j1 j2 S hD
      have hD := k167  S hD
      unfold D_X12_clause_167 at hD
      show u_P L xs n d m_X12_clause 167 [(0, .ref 100), (1, .int j1), (2, .int j2)] [] S R _
      refine u_st1 rfl (fun _ => rfl) (fun m hm => ?_)
      show u_P L xs m d m_X12_clause 168 [(0, .ref 100), (1, .int j1), (2, .int j2)] [.ref 100] S R _
      refine u_getr rfl v_tyM rfl ?_
      refine u_st rfl (fun _ => rfl) ?_
      show u_P L xs m d m_X12_clause 172 [(0, .ref 100), (1, .int j1), (2, .int j2)] [.ref 100, .ref 111] S R _
      refine u_getE (v := S 99 6) rfl v_tyM rfl rfl ?_
      refine u_st rfl (fun _ => rfl) ?_
      show u_P L xs m d m_X12_clause 176 [(0, .ref 100), (1, .int j1), (2, .int j2)] [.ref 100, .int (S 99 6), .ref 111] S R _
      refine u_getE (v := S 99 7) rfl v_tyM rfl rfl ?_
      show u_P L xs m d m_X12_clause 179 [(0, .ref 100), (1, .int j1), (2, .int j2)] [.int (S 99 7), .int (S 99 6), .ref 111] S R _
      refine u_iast rfl rfl (fun b11 b12 => ?_)
      have hD := hD b11 b12
      show u_P L xs m d m_X12_clause 180 [(0, .ref 100), (1, .int j1), (2, .int j2)] [] (z_s S 110 ((S 99 6).toInt.toNat) (S 99 7)) R _
      refine u_st rfl (fun _ => rfl) ?_
      refine u_st rfl (fun _ => rfl) ?_
      show u_P L xs m d m_X12_clause 182 [(0, .ref 100), (1, .int j1), (2, .int j2)] [.ref 100, .ref 100] (z_s S 110 ((S 99 6).toInt.toNat) (S 99 7)) R _
      refine u_getE (v := S 99 6) rfl v_tyM rfl (z_sn (fun h => absurd h.1 (by decide))) ?_
      refine u_st rfl (fun _ => rfl) ?_
      refine u_st rfl (fun _ => rfl) ?_
      show u_P L xs m d m_X12_clause 187 [(0, .ref 100), (1, .int j1), (2, .int j2)] [.int ((S 99 6) + (Int32.ofInt 1)), .ref 100] (z_s S 110 ((S 99 6).toInt.toNat) (S 99 7)) R _
      refine u_put rfl v_tyM rfl ?_
      show u_P L xs m d m_X12_clause 190 [(0, .ref 100), (1, .int j1), (2, .int j2)] [] (z_s (z_s S 110 ((S 99 6).toInt.toNat) (S 99 7)) 99 6 ((S 99 6) + (Int32.ofInt 1))) R _
      exact u_ret rfl rfl ⟨rfl, rfl, hD⟩
set_option maxRecDepth 4000 in
theorem w_X12_clause (L : Nat) (xs : Nat → Int32) {R : v_Rf} (a : Int32) (H25 : Int32 → Int32 → v_Sf → Prop) (H37 : Int32 → Int32 → v_Sf → Prop) (H64 : Int32 → Int32 → v_Sf → Prop) (H143 : v_Sf → Prop) (H167 : v_Sf → Prop) (K : v_Sf → Prop) (k25 : ∀ (x1 : Int32) (x2 : Int32) (S : v_Sf), H25 x1 x2 S → D_X12_clause_25 H25 H37 H64 H143 H167 K x1 x2 S) (k37 : ∀ (x1 : Int32) (x2 : Int32) (S : v_Sf), H37 x1 x2 S → D_X12_clause_37 H25 H37 H64 H143 H167 K x1 x2 S) (k64 : ∀ (x1 : Int32) (x2 : Int32) (S : v_Sf), H64 x1 x2 S → D_X12_clause_64 H25 H37 H64 H143 H167 K x1 x2 S) (k143 : ∀  (S : v_Sf), H143  S → D_X12_clause_143 H25 H37 H64 H143 H167 K S) (k167 : ∀  (S : v_Sf), H167  S → D_X12_clause_167 H25 H37 H64 H143 H167 K S) (n d : Nat) (S : v_Sf) (hD : D_X12_clause a H25 H37 H64 H143 H167 K S) : u_P L xs n d m_X12_clause 0 (lv_args 0 [.ref 100, .int a]) [] S R (z_V R K) := by
  unfold D_X12_clause at hD
  show u_P L xs n d m_X12_clause 0 [(0, .ref 100), (1, .int a)] [] S R _
  refine u_st rfl (fun _ => rfl) ?_
  show u_P L xs n d m_X12_clause 1 [(0, .ref 100), (1, .int a)] [.ref 100] S R _
  refine u_cv (rest := []) rfl (by decide) mt_X12_here v_tyM rfl rfl rfl (Nat.le_of_ble_eq_true rfl) (Nat.le_of_ble_eq_true rfl) (Nat.le_of_ble_eq_true rfl) (fun d' => c_X12_here L xs n d' S R) ?_
  rintro _ _ _ ⟨_, rfl, rfl, rfl, rfl⟩
  refine u_st rfl (fun _ => rfl) ?_
  refine u_st rfl (fun _ => rfl) ?_
  show u_P L xs n d m_X12_clause 6 [(2, .int (f_X12_here S)), (0, .ref 100), (1, .int a)] [.int a] S R _
  refine u_if_eq rfl (fun h1 => ?_) (fun h1 => ?_)
  · have hD := hD.1 h1
    show u_P L xs n d m_X12_clause 18 [(2, .int (f_X12_here S)), (0, .ref 100), (1, .int a)] [] S R _
    refine u_st rfl (fun _ => rfl) ?_
    show u_P L xs n d m_X12_clause 19 [(2, .int (f_X12_here S)), (0, .ref 100), (1, .int a)] [.int (f_X12_here S)] S R _
    refine u_cs (ac := [.int (f_X12_here S)]) (rest := []) rfl (by decide) mt_X12_isClause (fun _ => rfl) (Nat.le_of_ble_eq_true rfl) (Nat.le_of_ble_eq_true rfl) (fun d' => c_X12_isClause L xs n d' (f_X12_here S) S R) ?_
    rintro _ _ _ ⟨_, rfl, rfl, rfl, rfl⟩
    show u_P L xs n d m_X12_clause 22 [(2, .int (f_X12_here S)), (0, .ref 100), (1, .int a)] [.int (f_X12_isClause (f_X12_here S))] S R _
    refine u_if_ne rfl (fun h2 => ?_) (fun h2 => ?_)
    · have hD := hD.1 h2
      refine u_lc (b := [(0, .ref 100), (1, .int a), (2, .int (f_X12_here S))]) (show ([2, 0, 1] : List Nat).Nodup by decide) (show ([0, 1, 2] : List Nat).Nodup by decide) (fun i => match i with | 0 => rfl | 1 => rfl | 2 => rfl | _ + 3 => rfl) ?_
      exact (hd_X12_clause L xs a H25 H37 H64 H143 H167 K k25 k37 k64 k143 k167 n).2.1 d a (f_X12_here S) S hD
    · have hD := hD.2 h2
      refine u_lc (b := [(0, .ref 100), (1, .int a), (2, .int (f_X12_here S))]) (show ([2, 0, 1] : List Nat).Nodup by decide) (show ([0, 1, 2] : List Nat).Nodup by decide) (fun i => match i with | 0 => rfl | 1 => rfl | 2 => rfl | _ + 3 => rfl) ?_
      exact (hd_X12_clause L xs a H25 H37 H64 H143 H167 K k25 k37 k64 k143 k167 n).1 d a (f_X12_here S) S hD
  · have hD := hD.2 h1
    show u_P L xs n d m_X12_clause 9 [(2, .int (f_X12_here S)), (0, .ref 100), (1, .int a)] [] S R _
    refine u_st rfl (fun _ => rfl) ?_
    refine u_st rfl (fun _ => rfl) ?_
    show u_P L xs n d m_X12_clause 12 [(2, .int (f_X12_here S)), (0, .ref 100), (1, .int a)] [.int (Int32.ofInt 40), .int (f_X12_here S)] S R _
    refine u_ic_eq rfl (fun h3 => ?_) (fun h3 => ?_)
    · have hD := hD.1 h3
      refine u_lc (b := [(0, .ref 100), (1, .int a), (2, .int (f_X12_here S))]) (show ([2, 0, 1] : List Nat).Nodup by decide) (show ([0, 1, 2] : List Nat).Nodup by decide) (fun i => match i with | 0 => rfl | 1 => rfl | 2 => rfl | _ + 3 => rfl) ?_
      exact (hd_X12_clause L xs a H25 H37 H64 H143 H167 K k25 k37 k64 k143 k167 n).2.1 d a (f_X12_here S) S hD
    · have hD := hD.2 h3
      show u_P L xs n d m_X12_clause 15 [(2, .int (f_X12_here S)), (0, .ref 100), (1, .int a)] [] S R _
      refine u_st rfl (fun _ => rfl) ?_
      refine u_lc (b := [(0, .ref 100), (1, .int a), (2, .int (f_X12_here S))]) (show ([2, 0, 1] : List Nat).Nodup by decide) (show ([0, 1, 2] : List Nat).Nodup by decide) (fun i => match i with | 0 => rfl | 1 => rfl | 2 => rfl | _ + 3 => rfl) ?_
      exact (hd_X12_clause L xs a H25 H37 H64 H143 H167 K k25 k37 k64 k143 k167 n).1 d a (f_X12_here S) S hD
noncomputable def j_X12_clause_167 (x1 : Int32) (x2 : Int32) (S : v_Sf) : v_Sf := z_s (z_s S 110 ((S 99 6).toInt.toNat) (S 99 7)) 99 6 ((S 99 6) + (Int32.ofInt 1))
noncomputable def j_X12_clause_143 (x1 : Int32) (x2 : Int32) (S : v_Sf) : v_Sf := (if (f_X12_isGood (z_s S 109 ((S 99 6).toInt.toNat) (S 99 7))) = 0 then j_X12_clause_167 x1 x2 (z_s S 109 ((S 99 6).toInt.toNat) (S 99 7)) else j_X12_clause_167 x1 x2 (g_X12_condition (z_s S 109 ((S 99 6).toInt.toNat) (S 99 7))))
noncomputable def j_X12_clause_64 (x1 : Int32) (x2 : Int32) (S : v_Sf) : v_Sf := (if ¬ (f_X12_isGood S) = 0 then (if x1 = 0 then (if x2 = (Int32.ofInt 101) then j_X12_clause_143 x1 x2 (z_s (z_s (z_s (z_s (z_s S 107 ((S 99 6).toInt.toNat) x2) 108 ((S 99 6).toInt.toNat) (S 99 7)) 99 3 ((S 99 3) + (Int32.ofInt 1))) 99 9 (Int32.ofInt 0)) 99 8 (Int32.ofInt 0)) else (if x2 = (Int32.ofInt 120) then j_X12_clause_143 x1 x2 (z_s (z_s (z_s (z_s (z_s S 107 ((S 99 6).toInt.toNat) x2) 108 ((S 99 6).toInt.toNat) (S 99 7)) 99 3 ((S 99 3) + (Int32.ofInt 1))) 99 9 (Int32.ofInt 0)) 99 8 (Int32.ofInt 0)) else j_X12_clause_143 x1 x2 (g_X12_value (z_s (z_s (z_s (z_s (z_s S 107 ((S 99 6).toInt.toNat) x2) 108 ((S 99 6).toInt.toNat) (S 99 7)) 99 3 ((S 99 3) + (Int32.ofInt 1))) 99 9 (Int32.ofInt 0)) 99 8 (Int32.ofInt 0))))) else j_X12_clause_143 x1 x2 (z_s (z_s (z_s (z_s (z_s S 107 ((S 99 6).toInt.toNat) x2) 108 ((S 99 6).toInt.toNat) (S 99 7)) 99 3 ((S 99 3) + (Int32.ofInt 0))) 99 9 (Int32.ofInt 0)) 99 8 (Int32.ofInt 0))) else S)
noncomputable def j_X12_clause_37 (x1 : Int32) (x2 : Int32) (S : v_Sf) : v_Sf := (if x1 = 0 then (if ¬ (S 99 6) = (Int32.ofInt 16) then j_X12_clause_64 x1 x2 S else j_X12_clause_64 x1 x2 (g_X12_wrongs (Int32.ofInt 4) (S 99 3) S)) else (if ¬ (S 99 6) = (Int32.ofInt 12) then j_X12_clause_64 x1 x2 S else j_X12_clause_64 x1 x2 (g_X12_wrongs (Int32.ofInt 4) (S 99 3) S)))
noncomputable def j_X12_clause_25 (x1 : Int32) (x2 : Int32) (S : v_Sf) : v_Sf := j_X12_clause_64 x1 x2 (g_X12_wrongs (Int32.ofInt 1) (S 99 3) S)
noncomputable def F_X12_clause (a : Int32) (S : v_Sf) : v_Sf := (if a = 0 then (if ¬ (f_X12_isClause (f_X12_here S)) = 0 then j_X12_clause_37 a (f_X12_here S) S else j_X12_clause_25 a (f_X12_here S) S) else (if (f_X12_here S) = (Int32.ofInt 40) then j_X12_clause_37 a (f_X12_here S) S else j_X12_clause_25 a (f_X12_here S) S))
noncomputable def g_X12_clause (a : Int32) (S : v_Sf) : v_Sf := F_X12_clause a S
theorem c_X12_clause (L : Nat) (xs : Nat → Int32) (n d : Nat) (a : Int32) (S : v_Sf) (R : v_Rf) : u_P L xs n d m_X12_clause 0 (lv_args 0 [.ref 100, .int a]) [] S R (z_V R (fun S1 => g_X12_clause a S = S1)) := by
  refine w_X12_clause L xs a (fun y1 y2 T => a = y1 ∧ f_X12_here S = y2 ∧ j_X12_clause_25 a (f_X12_here S) T = F_X12_clause a S) (fun y1 y2 T => a = y1 ∧ f_X12_here S = y2 ∧ j_X12_clause_37 a (f_X12_here S) T = F_X12_clause a S) (fun y1 y2 T => a = y1 ∧ f_X12_here S = y2 ∧ j_X12_clause_64 a (f_X12_here S) T = F_X12_clause a S) (fun  T => j_X12_clause_143 a (f_X12_here S) T = F_X12_clause a S) (fun  T => j_X12_clause_167 a (f_X12_here S) T = F_X12_clause a S) (fun S1 => g_X12_clause a S = S1) ?_ ?_ ?_ ?_ ?_ n d S ?_
  · rintro _ _ S1 ⟨rfl, rfl, e⟩
    unfold D_X12_clause_25
    rw [j_X12_clause_25] at e
    exact ⟨rfl, rfl, e⟩
  · rintro _ _ S1 ⟨rfl, rfl, e⟩
    unfold D_X12_clause_37
    rw [j_X12_clause_37] at e
    refine ⟨fun q1 => ?_, fun q1 => ?_⟩
    · refine ⟨fun q2 => ?_, fun q2 => ?_⟩
      · rw [if_pos q1, if_pos q2] at e
        exact ⟨rfl, rfl, e⟩
      · rw [if_pos q1, if_neg q2] at e
        exact ⟨rfl, rfl, e⟩
    · refine ⟨fun q3 => ?_, fun q3 => ?_⟩
      · rw [if_neg q1, if_pos q3] at e
        exact ⟨rfl, rfl, e⟩
      · rw [if_neg q1, if_neg q3] at e
        exact ⟨rfl, rfl, e⟩
  · rintro _ _ S1 ⟨rfl, rfl, e⟩
    unfold D_X12_clause_64
    rw [j_X12_clause_64] at e
    refine ⟨fun q4 => ?_, fun q4 => ?_⟩
    · intro _ _
      intro _ _
      refine ⟨fun q5 => ?_, fun q5 => ?_⟩
      · refine ⟨fun q6 => ?_, fun q6 => ?_⟩
        · rw [if_pos q4, if_pos q5, if_pos q6] at e
          exact e
        · refine ⟨fun q7 => ?_, fun q7 => ?_⟩
          · rw [if_pos q4, if_pos q5, if_neg q6, if_pos q7] at e
            exact e
          · rw [if_pos q4, if_pos q5, if_neg q6, if_neg q7] at e
            exact e
      · rw [if_pos q4, if_neg q5] at e
        exact e
    · rw [if_neg q4] at e
      exact e.symm
  · rintro  S1 e
    unfold D_X12_clause_143
    rw [j_X12_clause_143] at e
    intro _ _
    refine ⟨fun q8 => ?_, fun q8 => ?_⟩
    · rw [if_pos q8] at e
      exact e
    · rw [if_neg q8] at e
      exact e
  · rintro  S1 e
    unfold D_X12_clause_167
    rw [j_X12_clause_167] at e
    intro _ _
    exact e.symm
  · unfold D_X12_clause
    refine ⟨fun q9 => ?_, fun q9 => ?_⟩
    · refine ⟨fun q10 => ?_, fun q10 => ?_⟩
      · have e : j_X12_clause_37 a (f_X12_here S) S = F_X12_clause a S := by rw [F_X12_clause, if_pos q9, if_pos q10]
        exact ⟨rfl, rfl, e⟩
      · have e : j_X12_clause_25 a (f_X12_here S) S = F_X12_clause a S := by rw [F_X12_clause, if_pos q9, if_neg q10]
        exact ⟨rfl, rfl, e⟩
    · refine ⟨fun q11 => ?_, fun q11 => ?_⟩
      · have e : j_X12_clause_37 a (f_X12_here S) S = F_X12_clause a S := by rw [F_X12_clause, if_neg q9, if_pos q11]
        exact ⟨rfl, rfl, e⟩
      · have e : j_X12_clause_25 a (f_X12_here S) S = F_X12_clause a S := by rw [F_X12_clause, if_neg q9, if_neg q11]
        exact ⟨rfl, rfl, e⟩
noncomputable def D_X12_takesText_17  (H17 : Int32 → Int32 → v_Sf → Prop) (H132 : Int32 → Int32 → Int32 → v_Sf → Prop) (H227 : Int32 → Int32 → v_Sf → Prop) (K : Int32 → v_Sf → Prop) (x2 : Int32) (x3 : Int32) (S : v_Sf) : Prop := ((x3 = 0 → ((0 ≤ (S 99 5) → ((x2 = 0 → H132 (Int32.ofInt 0) (Int32.ofInt 0) (Int32.ofInt 0) S) ∧ (¬ (x2 = 0) → H132 (Int32.ofInt 16) (Int32.ofInt 240) (Int32.ofInt 0) S))) ∧ (¬ (0 ≤ (S 99 5)) → K (S 99 5) S))) ∧ (¬ (x3 = 0) → (((f_X12_isGood S) = 0 → ((0 ≤ (S 99 5) → ((x2 = 0 → H132 (Int32.ofInt 0) (Int32.ofInt 0) (Int32.ofInt 0) S) ∧ (¬ (x2 = 0) → H132 (Int32.ofInt 16) (Int32.ofInt 240) (Int32.ofInt 0) S))) ∧ (¬ (0 ≤ (S 99 5)) → K (S 99 5) S))) ∧ (¬ ((f_X12_isGood S) = 0) → (((f_X12_isGood (g_X12_clause x2 S)) = 0 → H17 x2 (Int32.ofInt 0) (g_X12_clause x2 S)) ∧ (¬ ((f_X12_isGood (g_X12_clause x2 S)) = 0) → ((((g_X12_clause x2 S) 99 4) ≤ ((g_X12_clause x2 S) 99 3) → H17 x2 (Int32.ofInt 0) (g_X12_clause x2 S)) ∧ (¬ (((g_X12_clause x2 S) 99 4) ≤ ((g_X12_clause x2 S) 99 3)) → (((f_X12_here (g_X12_clause x2 S)) = (Int32.ofInt 59) → H17 x2 (Int32.ofInt 1) (z_s (g_X12_clause x2 S) 99 3 (((g_X12_clause x2 S) 99 3) + (Int32.ofInt 1)))) ∧ (¬ ((f_X12_here (g_X12_clause x2 S)) = (Int32.ofInt 59)) → H17 x2 (Int32.ofInt 1) (z_s (g_X12_wrongs (Int32.ofInt 1) ((g_X12_clause x2 S) 99 3) (g_X12_clause x2 S)) 99 3 (((g_X12_wrongs (Int32.ofInt 1) ((g_X12_clause x2 S) 99 3) (g_X12_clause x2 S)) 99 3) + (Int32.ofInt 1)))))))))))))
noncomputable def D_X12_takesText_132  (H17 : Int32 → Int32 → v_Sf → Prop) (H132 : Int32 → Int32 → Int32 → v_Sf → Prop) (H227 : Int32 → Int32 → v_Sf → Prop) (K : Int32 → v_Sf → Prop) (x4 : Int32) (x5 : Int32) (x6 : Int32) (S : v_Sf) : Prop := (((S 99 6) ≤ x6 → H227 x5 (Int32.ofInt 0) S) ∧ (¬ ((S 99 6) ≤ x6) → (0 ≤ x6.toInt → x6.toInt < 16 → (0 ≤ (x4 + x6).toInt → (x4 + x6).toInt < 28 → (0 ≤ x6.toInt → x6.toInt < 16 → (0 ≤ (x4 + x6).toInt → (x4 + x6).toInt < 28 → (0 ≤ x6.toInt → x6.toInt < 16 → (0 ≤ (x4 + x6).toInt → (x4 + x6).toInt < 28 → (0 ≤ x6.toInt → x6.toInt < 16 → (0 ≤ (x4 + x6).toInt → (x4 + x6).toInt < 28 → H132 x4 x5 (x6 + (Int32.ofInt 1)) (z_s (z_s (z_s (z_s S 101 ((x4 + x6).toInt.toNat) (S 107 x6.toInt.toNat)) 102 ((x4 + x6).toInt.toNat) (x5 + (S 108 x6.toInt.toNat))) 103 ((x4 + x6).toInt.toNat) (x5 + (S 109 x6.toInt.toNat))) 104 ((x4 + x6).toInt.toNat) (x5 + (S 110 x6.toInt.toNat)))))))))))))
noncomputable def D_X12_takesText_227  (H17 : Int32 → Int32 → v_Sf → Prop) (H132 : Int32 → Int32 → Int32 → v_Sf → Prop) (H227 : Int32 → Int32 → v_Sf → Prop) (K : Int32 → v_Sf → Prop) (x5 : Int32) (x6 : Int32) (S : v_Sf) : Prop := (((S 99 7) ≤ x6 → K (S 99 6) S) ∧ (¬ ((S 99 7) ≤ x6) → (0 ≤ x6.toInt → x6.toInt < 240 → (0 ≤ (x5 + x6).toInt → (x5 + x6).toInt < 480 → (0 ≤ x6.toInt → x6.toInt < 240 → (0 ≤ (x5 + x6).toInt → (x5 + x6).toInt < 480 → H227 x5 (x6 + (Int32.ofInt 1)) (z_s (z_s S 105 ((x5 + x6).toInt.toNat) (S 111 x6.toInt.toNat)) 106 ((x5 + x6).toInt.toNat) (S 112 x6.toInt.toNat))))))))
noncomputable def D_X12_takesText (a : Int32) (b : Int32) (H17 : Int32 → Int32 → v_Sf → Prop) (H132 : Int32 → Int32 → Int32 → v_Sf → Prop) (H227 : Int32 → Int32 → v_Sf → Prop) (K : Int32 → v_Sf → Prop) (S : v_Sf) : Prop := H17 b (Int32.ofInt 1) (z_s (z_s (g_X12_begins a S) 99 6 (Int32.ofInt 0)) 99 7 (Int32.ofInt 0))
set_option maxRecDepth 4000 in
theorem hd_X12_takesText (L : Nat) (xs : Nat → Int32) {R : v_Rf} (a : Int32) (b : Int32) (H17 : Int32 → Int32 → v_Sf → Prop) (H132 : Int32 → Int32 → Int32 → v_Sf → Prop) (H227 : Int32 → Int32 → v_Sf → Prop) (K : Int32 → v_Sf → Prop) (k17 : ∀ (x2 : Int32) (x3 : Int32) (S : v_Sf), H17 x2 x3 S → D_X12_takesText_17 H17 H132 H227 K x2 x3 S) (k132 : ∀ (x4 : Int32) (x5 : Int32) (x6 : Int32) (S : v_Sf), H132 x4 x5 x6 S → D_X12_takesText_132 H17 H132 H227 K x4 x5 x6 S) (k227 : ∀ (x5 : Int32) (x6 : Int32) (S : v_Sf), H227 x5 x6 S → D_X12_takesText_227 H17 H132 H227 K x5 x6 S) : ∀ n, (∀ (d : Nat) (j1 : Int32) (x2 : Int32) (x3 : Int32) (S : v_Sf), H17 x2 x3 S → u_P L xs n d m_X12_takesText 17 [(0, .ref 100), (1, .int j1), (2, .int x2), (3, .int x3)] [] S R (z_Q R K)) ∧ (∀ (d : Nat) (j1 : Int32) (j2 : Int32) (j3 : Int32) (x4 : Int32) (x5 : Int32) (x6 : Int32) (S : v_Sf), H132 x4 x5 x6 S → u_P L xs n d m_X12_takesText 132 [(0, .ref 100), (1, .int j1), (2, .int j2), (3, .int j3), (4, .int x4), (5, .int x5), (6, .int x6)] [] S R (z_Q R K)) ∧ (∀ (d : Nat) (j1 : Int32) (j2 : Int32) (j3 : Int32) (j4 : Int32) (x5 : Int32) (x6 : Int32) (S : v_Sf), H227 x5 x6 S → u_P L xs n d m_X12_takesText 227 [(0, .ref 100), (1, .int j1), (2, .int j2), (3, .int j3), (4, .int j4), (5, .int x5), (6, .int x6)] [] S R (z_Q R K)) := by
  intro n
  induction n using Nat.strongRecOn with
  | ind n ih =>
    refine ⟨?_, ?_, ?_⟩
    · intro d j1 x2 x3 S hD
      have hD := k17 x2 x3 S hD
      unfold D_X12_takesText_17 at hD
      show u_P L xs n d m_X12_takesText 17 [(0, .ref 100), (1, .int j1), (2, .int x2), (3, .int x3)] [] S R _
      refine u_st1 rfl (fun _ => rfl) (fun m hm => ?_)
      show u_P L xs m d m_X12_takesText 18 [(0, .ref 100), (1, .int j1), (2, .int x2), (3, .int x3)] [.int x3] S R _
      refine u_if_eq rfl (fun h1 => ?_) (fun h1 => ?_)
      · have hD := hD.1 h1
        show u_P L xs m d m_X12_takesText 92 [(0, .ref 100), (1, .int j1), (2, .int x2), (3, .int x3)] [] S R _
        refine u_st rfl (fun _ => rfl) ?_
        show u_P L xs m d m_X12_takesText 93 [(0, .ref 100), (1, .int j1), (2, .int x2), (3, .int x3)] [.ref 100] S R _
        refine u_getE (v := S 99 5) rfl v_tyM rfl rfl ?_
        show u_P L xs m d m_X12_takesText 96 [(0, .ref 100), (1, .int j1), (2, .int x2), (3, .int x3)] [.int (S 99 5)] S R _
        refine u_if_ge rfl (fun h2 => ?_) (fun h2 => ?_)
        · have hD := hD.1 h2
          show u_P L xs m d m_X12_takesText 104 [(0, .ref 100), (1, .int j1), (2, .int x2), (3, .int x3)] [] S R _
          refine u_st rfl (fun _ => rfl) ?_
          show u_P L xs m d m_X12_takesText 105 [(0, .ref 100), (1, .int j1), (2, .int x2), (3, .int x3)] [.int x2] S R _
          refine u_if_eq rfl (fun h3 => ?_) (fun h3 => ?_)
          · have hD := hD.1 h3
            show u_P L xs m d m_X12_takesText 113 [(0, .ref 100), (1, .int j1), (2, .int x2), (3, .int x3)] [] S R _
            refine u_st rfl (fun _ => rfl) ?_
            refine u_st rfl (fun _ => rfl) ?_
            refine u_st rfl (fun _ => rfl) ?_
            show u_P L xs m d m_X12_takesText 117 [(4, .int (Int32.ofInt 0)), (0, .ref 100), (1, .int j1), (2, .int x2), (3, .int x3)] [.int x2] S R _
            refine u_if_eq rfl (fun _ => ?_) (fun h4 => absurd h3 h4)
            show u_P L xs m d m_X12_takesText 126 [(4, .int (Int32.ofInt 0)), (0, .ref 100), (1, .int j1), (2, .int x2), (3, .int x3)] [] S R _
            refine u_st rfl (fun _ => rfl) ?_
            refine u_st rfl (fun _ => rfl) ?_
            refine u_st rfl (fun _ => rfl) ?_
            refine u_st rfl (fun _ => rfl) ?_
            refine u_lc (b := [(0, .ref 100), (1, .int j1), (2, .int x2), (3, .int x3), (4, .int (Int32.ofInt 0)), (5, .int (Int32.ofInt 0)), (6, .int (Int32.ofInt 0))]) (show ([6, 5, 4, 0, 1, 2, 3] : List Nat).Nodup by decide) (show ([0, 1, 2, 3, 4, 5, 6] : List Nat).Nodup by decide) (fun i => match i with | 0 => rfl | 1 => rfl | 2 => rfl | 3 => rfl | 4 => rfl | 5 => rfl | 6 => rfl | _ + 7 => rfl) ?_
            exact (ih m hm).2.1 d j1 x2 x3 (Int32.ofInt 0) (Int32.ofInt 0) (Int32.ofInt 0) S hD
          · have hD := hD.2 h3
            show u_P L xs m d m_X12_takesText 108 [(0, .ref 100), (1, .int j1), (2, .int x2), (3, .int x3)] [] S R _
            refine u_st rfl (fun _ => rfl) ?_
            refine u_st rfl (fun _ => rfl) ?_
            refine u_st rfl (fun _ => rfl) ?_
            refine u_st rfl (fun _ => rfl) ?_
            show u_P L xs m d m_X12_takesText 117 [(4, .int (Int32.ofInt 16)), (0, .ref 100), (1, .int j1), (2, .int x2), (3, .int x3)] [.int x2] S R _
            refine u_if_eq rfl (fun h5 => absurd h5 h3) (fun _ => ?_)
            show u_P L xs m d m_X12_takesText 120 [(4, .int (Int32.ofInt 16)), (0, .ref 100), (1, .int j1), (2, .int x2), (3, .int x3)] [] S R _
            refine u_st rfl (fun _ => rfl) ?_
            refine u_st rfl (fun _ => rfl) ?_
            refine u_st rfl (fun _ => rfl) ?_
            refine u_st rfl (fun _ => rfl) ?_
            refine u_st rfl (fun _ => rfl) ?_
            refine u_lc (b := [(0, .ref 100), (1, .int j1), (2, .int x2), (3, .int x3), (4, .int (Int32.ofInt 16)), (5, .int (Int32.ofInt 240)), (6, .int (Int32.ofInt 0))]) (show ([6, 5, 4, 0, 1, 2, 3] : List Nat).Nodup by decide) (show ([0, 1, 2, 3, 4, 5, 6] : List Nat).Nodup by decide) (fun i => match i with | 0 => rfl | 1 => rfl | 2 => rfl | 3 => rfl | 4 => rfl | 5 => rfl | 6 => rfl | _ + 7 => rfl) ?_
            exact (ih m hm).2.1 d j1 x2 x3 (Int32.ofInt 16) (Int32.ofInt 240) (Int32.ofInt 0) S hD
        · have hD := hD.2 h2
          show u_P L xs m d m_X12_takesText 99 [(0, .ref 100), (1, .int j1), (2, .int x2), (3, .int x3)] [] S R _
          refine u_st rfl (fun _ => rfl) ?_
          show u_P L xs m d m_X12_takesText 100 [(0, .ref 100), (1, .int j1), (2, .int x2), (3, .int x3)] [.ref 100] S R _
          refine u_getE (v := S 99 5) rfl v_tyM rfl rfl ?_
          show u_P L xs m d m_X12_takesText 103 [(0, .ref 100), (1, .int j1), (2, .int x2), (3, .int x3)] [.int (S 99 5)] S R _
          exact u_ret rfl rfl ⟨_, rfl, rfl, hD⟩
      · have hD := hD.2 h1
        show u_P L xs m d m_X12_takesText 21 [(0, .ref 100), (1, .int j1), (2, .int x2), (3, .int x3)] [] S R _
        refine u_st rfl (fun _ => rfl) ?_
        show u_P L xs m d m_X12_takesText 22 [(0, .ref 100), (1, .int j1), (2, .int x2), (3, .int x3)] [.ref 100] S R _
        refine u_cv (rest := []) rfl (by decide) mt_X12_isGood v_tyM rfl rfl rfl (Nat.le_of_ble_eq_true rfl) (Nat.le_of_ble_eq_true rfl) (Nat.le_of_ble_eq_true rfl) (fun d' => c_X12_isGood L xs m d' S R) ?_
        rintro _ _ _ ⟨_, rfl, rfl, rfl, rfl⟩
        show u_P L xs m d m_X12_takesText 25 [(0, .ref 100), (1, .int j1), (2, .int x2), (3, .int x3)] [.int (f_X12_isGood S)] S R _
        refine u_if_eq rfl (fun h6 => ?_) (fun h6 => ?_)
        · have hD := hD.1 h6
          show u_P L xs m d m_X12_takesText 92 [(0, .ref 100), (1, .int j1), (2, .int x2), (3, .int x3)] [] S R _
          refine u_st rfl (fun _ => rfl) ?_
          show u_P L xs m d m_X12_takesText 93 [(0, .ref 100), (1, .int j1), (2, .int x2), (3, .int x3)] [.ref 100] S R _
          refine u_getE (v := S 99 5) rfl v_tyM rfl rfl ?_
          show u_P L xs m d m_X12_takesText 96 [(0, .ref 100), (1, .int j1), (2, .int x2), (3, .int x3)] [.int (S 99 5)] S R _
          refine u_if_ge rfl (fun h7 => ?_) (fun h7 => ?_)
          · have hD := hD.1 h7
            show u_P L xs m d m_X12_takesText 104 [(0, .ref 100), (1, .int j1), (2, .int x2), (3, .int x3)] [] S R _
            refine u_st rfl (fun _ => rfl) ?_
            show u_P L xs m d m_X12_takesText 105 [(0, .ref 100), (1, .int j1), (2, .int x2), (3, .int x3)] [.int x2] S R _
            refine u_if_eq rfl (fun h8 => ?_) (fun h8 => ?_)
            · have hD := hD.1 h8
              show u_P L xs m d m_X12_takesText 113 [(0, .ref 100), (1, .int j1), (2, .int x2), (3, .int x3)] [] S R _
              refine u_st rfl (fun _ => rfl) ?_
              refine u_st rfl (fun _ => rfl) ?_
              refine u_st rfl (fun _ => rfl) ?_
              show u_P L xs m d m_X12_takesText 117 [(4, .int (Int32.ofInt 0)), (0, .ref 100), (1, .int j1), (2, .int x2), (3, .int x3)] [.int x2] S R _
              refine u_if_eq rfl (fun _ => ?_) (fun h9 => absurd h8 h9)
              show u_P L xs m d m_X12_takesText 126 [(4, .int (Int32.ofInt 0)), (0, .ref 100), (1, .int j1), (2, .int x2), (3, .int x3)] [] S R _
              refine u_st rfl (fun _ => rfl) ?_
              refine u_st rfl (fun _ => rfl) ?_
              refine u_st rfl (fun _ => rfl) ?_
              refine u_st rfl (fun _ => rfl) ?_
              refine u_lc (b := [(0, .ref 100), (1, .int j1), (2, .int x2), (3, .int x3), (4, .int (Int32.ofInt 0)), (5, .int (Int32.ofInt 0)), (6, .int (Int32.ofInt 0))]) (show ([6, 5, 4, 0, 1, 2, 3] : List Nat).Nodup by decide) (show ([0, 1, 2, 3, 4, 5, 6] : List Nat).Nodup by decide) (fun i => match i with | 0 => rfl | 1 => rfl | 2 => rfl | 3 => rfl | 4 => rfl | 5 => rfl | 6 => rfl | _ + 7 => rfl) ?_
              exact (ih m hm).2.1 d j1 x2 x3 (Int32.ofInt 0) (Int32.ofInt 0) (Int32.ofInt 0) S hD
            · have hD := hD.2 h8
              show u_P L xs m d m_X12_takesText 108 [(0, .ref 100), (1, .int j1), (2, .int x2), (3, .int x3)] [] S R _
              refine u_st rfl (fun _ => rfl) ?_
              refine u_st rfl (fun _ => rfl) ?_
              refine u_st rfl (fun _ => rfl) ?_
              refine u_st rfl (fun _ => rfl) ?_
              show u_P L xs m d m_X12_takesText 117 [(4, .int (Int32.ofInt 16)), (0, .ref 100), (1, .int j1), (2, .int x2), (3, .int x3)] [.int x2] S R _
              refine u_if_eq rfl (fun h10 => absurd h10 h8) (fun _ => ?_)
              show u_P L xs m d m_X12_takesText 120 [(4, .int (Int32.ofInt 16)), (0, .ref 100), (1, .int j1), (2, .int x2), (3, .int x3)] [] S R _
              refine u_st rfl (fun _ => rfl) ?_
              refine u_st rfl (fun _ => rfl) ?_
              refine u_st rfl (fun _ => rfl) ?_
              refine u_st rfl (fun _ => rfl) ?_
              refine u_st rfl (fun _ => rfl) ?_
              refine u_lc (b := [(0, .ref 100), (1, .int j1), (2, .int x2), (3, .int x3), (4, .int (Int32.ofInt 16)), (5, .int (Int32.ofInt 240)), (6, .int (Int32.ofInt 0))]) (show ([6, 5, 4, 0, 1, 2, 3] : List Nat).Nodup by decide) (show ([0, 1, 2, 3, 4, 5, 6] : List Nat).Nodup by decide) (fun i => match i with | 0 => rfl | 1 => rfl | 2 => rfl | 3 => rfl | 4 => rfl | 5 => rfl | 6 => rfl | _ + 7 => rfl) ?_
              exact (ih m hm).2.1 d j1 x2 x3 (Int32.ofInt 16) (Int32.ofInt 240) (Int32.ofInt 0) S hD
          · have hD := hD.2 h7
            show u_P L xs m d m_X12_takesText 99 [(0, .ref 100), (1, .int j1), (2, .int x2), (3, .int x3)] [] S R _
            refine u_st rfl (fun _ => rfl) ?_
            show u_P L xs m d m_X12_takesText 100 [(0, .ref 100), (1, .int j1), (2, .int x2), (3, .int x3)] [.ref 100] S R _
            refine u_getE (v := S 99 5) rfl v_tyM rfl rfl ?_
            show u_P L xs m d m_X12_takesText 103 [(0, .ref 100), (1, .int j1), (2, .int x2), (3, .int x3)] [.int (S 99 5)] S R _
            exact u_ret rfl rfl ⟨_, rfl, rfl, hD⟩
        · have hD := hD.2 h6
          show u_P L xs m d m_X12_takesText 28 [(0, .ref 100), (1, .int j1), (2, .int x2), (3, .int x3)] [] S R _
          refine u_st rfl (fun _ => rfl) ?_
          refine u_st rfl (fun _ => rfl) ?_
          show u_P L xs m d m_X12_takesText 30 [(0, .ref 100), (1, .int j1), (2, .int x2), (3, .int x3)] [.int x2, .ref 100] S R _
          refine u_cv (rest := []) rfl (by decide) mt_X12_clause v_tyM rfl rfl rfl (Nat.le_of_ble_eq_true rfl) (Nat.le_of_ble_eq_true rfl) (Nat.le_of_ble_eq_true rfl) (fun d' => c_X12_clause L xs m d' x2 S R) ?_
          rintro _ _ _ ⟨rfl, rfl, rfl⟩
          refine u_st rfl (fun _ => rfl) ?_
          show u_P L xs m d m_X12_takesText 34 [(0, .ref 100), (1, .int j1), (2, .int x2), (3, .int x3)] [.ref 100] (g_X12_clause x2 S) R _
          refine u_cv (rest := []) rfl (by decide) mt_X12_isGood v_tyM rfl rfl rfl (Nat.le_of_ble_eq_true rfl) (Nat.le_of_ble_eq_true rfl) (Nat.le_of_ble_eq_true rfl) (fun d' => c_X12_isGood L xs m d' (g_X12_clause x2 S) R) ?_
          rintro _ _ _ ⟨_, rfl, rfl, rfl, rfl⟩
          show u_P L xs m d m_X12_takesText 37 [(0, .ref 100), (1, .int j1), (2, .int x2), (3, .int x3)] [.int (f_X12_isGood (g_X12_clause x2 S))] (g_X12_clause x2 S) R _
          refine u_if_eq rfl (fun h11 => ?_) (fun h11 => ?_)
          · have hD := hD.1 h11
            show u_P L xs m d m_X12_takesText 55 [(0, .ref 100), (1, .int j1), (2, .int x2), (3, .int x3)] [] (g_X12_clause x2 S) R _
            refine u_st rfl (fun _ => rfl) ?_
            refine u_st rfl (fun _ => rfl) ?_
            refine u_st rfl (fun _ => rfl) ?_
            show u_P L xs m d m_X12_takesText 58 [(3, .int (Int32.ofInt 0)), (0, .ref 100), (1, .int j1), (2, .int x2)] [.int (Int32.ofInt 0)] (g_X12_clause x2 S) R _
            refine u_st rfl (fun _ => rfl) ?_
            refine u_lc (b := [(0, .ref 100), (1, .int j1), (2, .int x2), (3, .int (Int32.ofInt 0))]) (show ([3, 0, 1, 2] : List Nat).Nodup by decide) (show ([0, 1, 2, 3] : List Nat).Nodup by decide) (fun i => match i with | 0 => rfl | 1 => rfl | 2 => rfl | 3 => rfl | _ + 4 => rfl) ?_
            exact (ih m hm).1 d j1 x2 (Int32.ofInt 0) (g_X12_clause x2 S) hD
          · have hD := hD.2 h11
            show u_P L xs m d m_X12_takesText 40 [(0, .ref 100), (1, .int j1), (2, .int x2), (3, .int x3)] [] (g_X12_clause x2 S) R _
            refine u_st rfl (fun _ => rfl) ?_
            show u_P L xs m d m_X12_takesText 41 [(0, .ref 100), (1, .int j1), (2, .int x2), (3, .int x3)] [.ref 100] (g_X12_clause x2 S) R _
            refine u_getE (v := (g_X12_clause x2 S) 99 3) rfl v_tyM rfl rfl ?_
            refine u_st rfl (fun _ => rfl) ?_
            show u_P L xs m d m_X12_takesText 45 [(0, .ref 100), (1, .int j1), (2, .int x2), (3, .int x3)] [.ref 100, .int ((g_X12_clause x2 S) 99 3)] (g_X12_clause x2 S) R _
            refine u_getE (v := (g_X12_clause x2 S) 99 4) rfl v_tyM rfl rfl ?_
            show u_P L xs m d m_X12_takesText 48 [(0, .ref 100), (1, .int j1), (2, .int x2), (3, .int x3)] [.int ((g_X12_clause x2 S) 99 4), .int ((g_X12_clause x2 S) 99 3)] (g_X12_clause x2 S) R _
            refine u_ic_ge rfl (fun h12 => ?_) (fun h12 => ?_)
            · have hD := hD.1 h12
              show u_P L xs m d m_X12_takesText 55 [(0, .ref 100), (1, .int j1), (2, .int x2), (3, .int x3)] [] (g_X12_clause x2 S) R _
              refine u_st rfl (fun _ => rfl) ?_
              refine u_st rfl (fun _ => rfl) ?_
              refine u_st rfl (fun _ => rfl) ?_
              show u_P L xs m d m_X12_takesText 58 [(3, .int (Int32.ofInt 0)), (0, .ref 100), (1, .int j1), (2, .int x2)] [.int (Int32.ofInt 0)] (g_X12_clause x2 S) R _
              refine u_st rfl (fun _ => rfl) ?_
              refine u_lc (b := [(0, .ref 100), (1, .int j1), (2, .int x2), (3, .int (Int32.ofInt 0))]) (show ([3, 0, 1, 2] : List Nat).Nodup by decide) (show ([0, 1, 2, 3] : List Nat).Nodup by decide) (fun i => match i with | 0 => rfl | 1 => rfl | 2 => rfl | 3 => rfl | _ + 4 => rfl) ?_
              exact (ih m hm).1 d j1 x2 (Int32.ofInt 0) (g_X12_clause x2 S) hD
            · have hD := hD.2 h12
              show u_P L xs m d m_X12_takesText 51 [(0, .ref 100), (1, .int j1), (2, .int x2), (3, .int x3)] [] (g_X12_clause x2 S) R _
              refine u_st rfl (fun _ => rfl) ?_
              refine u_st rfl (fun _ => rfl) ?_
              refine u_st rfl (fun _ => rfl) ?_
              refine u_st rfl (fun _ => rfl) ?_
              show u_P L xs m d m_X12_takesText 58 [(3, .int (Int32.ofInt 1)), (0, .ref 100), (1, .int j1), (2, .int x2)] [.int (Int32.ofInt 1)] (g_X12_clause x2 S) R _
              refine u_st rfl (fun _ => rfl) ?_
              refine u_st rfl (fun _ => rfl) ?_
              show u_P L xs m d m_X12_takesText 62 [(3, .int (Int32.ofInt 1)), (0, .ref 100), (1, .int j1), (2, .int x2)] [.ref 100] (g_X12_clause x2 S) R _
              refine u_cv (rest := []) rfl (by decide) mt_X12_here v_tyM rfl rfl rfl (Nat.le_of_ble_eq_true rfl) (Nat.le_of_ble_eq_true rfl) (Nat.le_of_ble_eq_true rfl) (fun d' => c_X12_here L xs m d' (g_X12_clause x2 S) R) ?_
              rintro _ _ _ ⟨_, rfl, rfl, rfl, rfl⟩
              refine u_st rfl (fun _ => rfl) ?_
              show u_P L xs m d m_X12_takesText 67 [(3, .int (Int32.ofInt 1)), (0, .ref 100), (1, .int j1), (2, .int x2)] [.int (Int32.ofInt 59), .int (f_X12_here (g_X12_clause x2 S))] (g_X12_clause x2 S) R _
              refine u_ic_eq rfl (fun h13 => ?_) (fun h13 => ?_)
              · have hD := hD.1 h13
                show u_P L xs m d m_X12_takesText 79 [(3, .int (Int32.ofInt 1)), (0, .ref 100), (1, .int j1), (2, .int x2)] [] (g_X12_clause x2 S) R _
                refine u_st rfl (fun _ => rfl) ?_
                refine u_st rfl (fun _ => rfl) ?_
                show u_P L xs m d m_X12_takesText 81 [(3, .int (Int32.ofInt 1)), (0, .ref 100), (1, .int j1), (2, .int x2)] [.ref 100, .ref 100] (g_X12_clause x2 S) R _
                refine u_getE (v := (g_X12_clause x2 S) 99 3) rfl v_tyM rfl rfl ?_
                refine u_st rfl (fun _ => rfl) ?_
                refine u_st rfl (fun _ => rfl) ?_
                show u_P L xs m d m_X12_takesText 86 [(3, .int (Int32.ofInt 1)), (0, .ref 100), (1, .int j1), (2, .int x2)] [.int (((g_X12_clause x2 S) 99 3) + (Int32.ofInt 1)), .ref 100] (g_X12_clause x2 S) R _
                refine u_put rfl v_tyM rfl ?_
                refine u_st rfl (fun _ => rfl) ?_
                refine u_lc (b := [(0, .ref 100), (1, .int j1), (2, .int x2), (3, .int (Int32.ofInt 1))]) (show ([3, 0, 1, 2] : List Nat).Nodup by decide) (show ([0, 1, 2, 3] : List Nat).Nodup by decide) (fun i => match i with | 0 => rfl | 1 => rfl | 2 => rfl | 3 => rfl | _ + 4 => rfl) ?_
                exact (ih m hm).1 d j1 x2 (Int32.ofInt 1) (z_s (g_X12_clause x2 S) 99 3 (((g_X12_clause x2 S) 99 3) + (Int32.ofInt 1))) hD
              · have hD := hD.2 h13
                show u_P L xs m d m_X12_takesText 70 [(3, .int (Int32.ofInt 1)), (0, .ref 100), (1, .int j1), (2, .int x2)] [] (g_X12_clause x2 S) R _
                refine u_st rfl (fun _ => rfl) ?_
                refine u_st rfl (fun _ => rfl) ?_
                refine u_st rfl (fun _ => rfl) ?_
                show u_P L xs m d m_X12_takesText 73 [(3, .int (Int32.ofInt 1)), (0, .ref 100), (1, .int j1), (2, .int x2)] [.ref 100, .int (Int32.ofInt 1), .ref 100] (g_X12_clause x2 S) R _
                refine u_getE (v := (g_X12_clause x2 S) 99 3) rfl v_tyM rfl rfl ?_
                show u_P L xs m d m_X12_takesText 76 [(3, .int (Int32.ofInt 1)), (0, .ref 100), (1, .int j1), (2, .int x2)] [.int ((g_X12_clause x2 S) 99 3), .int (Int32.ofInt 1), .ref 100] (g_X12_clause x2 S) R _
                refine u_cv (rest := []) rfl (by decide) mt_X12_wrongs v_tyM rfl rfl rfl (Nat.le_of_ble_eq_true rfl) (Nat.le_of_ble_eq_true rfl) (Nat.le_of_ble_eq_true rfl) (fun d' => c_X12_wrongs L xs m d' (Int32.ofInt 1) ((g_X12_clause x2 S) 99 3) (g_X12_clause x2 S) R) ?_
                rintro _ _ _ ⟨rfl, rfl, rfl⟩
                refine u_st rfl (fun _ => rfl) ?_
                refine u_st rfl (fun _ => rfl) ?_
                show u_P L xs m d m_X12_takesText 81 [(3, .int (Int32.ofInt 1)), (0, .ref 100), (1, .int j1), (2, .int x2)] [.ref 100, .ref 100] (g_X12_wrongs (Int32.ofInt 1) ((g_X12_clause x2 S) 99 3) (g_X12_clause x2 S)) R _
                refine u_getE (v := (g_X12_wrongs (Int32.ofInt 1) ((g_X12_clause x2 S) 99 3) (g_X12_clause x2 S)) 99 3) rfl v_tyM rfl rfl ?_
                refine u_st rfl (fun _ => rfl) ?_
                refine u_st rfl (fun _ => rfl) ?_
                show u_P L xs m d m_X12_takesText 86 [(3, .int (Int32.ofInt 1)), (0, .ref 100), (1, .int j1), (2, .int x2)] [.int (((g_X12_wrongs (Int32.ofInt 1) ((g_X12_clause x2 S) 99 3) (g_X12_clause x2 S)) 99 3) + (Int32.ofInt 1)), .ref 100] (g_X12_wrongs (Int32.ofInt 1) ((g_X12_clause x2 S) 99 3) (g_X12_clause x2 S)) R _
                refine u_put rfl v_tyM rfl ?_
                refine u_st rfl (fun _ => rfl) ?_
                refine u_lc (b := [(0, .ref 100), (1, .int j1), (2, .int x2), (3, .int (Int32.ofInt 1))]) (show ([3, 0, 1, 2] : List Nat).Nodup by decide) (show ([0, 1, 2, 3] : List Nat).Nodup by decide) (fun i => match i with | 0 => rfl | 1 => rfl | 2 => rfl | 3 => rfl | _ + 4 => rfl) ?_
                exact (ih m hm).1 d j1 x2 (Int32.ofInt 1) (z_s (g_X12_wrongs (Int32.ofInt 1) ((g_X12_clause x2 S) 99 3) (g_X12_clause x2 S)) 99 3 (((g_X12_wrongs (Int32.ofInt 1) ((g_X12_clause x2 S) 99 3) (g_X12_clause x2 S)) 99 3) + (Int32.ofInt 1))) hD
    · intro d j1 j2 j3 x4 x5 x6 S hD
      have hD := k132 x4 x5 x6 S hD
      unfold D_X12_takesText_132 at hD
      show u_P L xs n d m_X12_takesText 132 [(0, .ref 100), (1, .int j1), (2, .int j2), (3, .int j3), (4, .int x4), (5, .int x5), (6, .int x6)] [] S R _
      refine u_st1 rfl (fun _ => rfl) (fun m hm => ?_)
      refine u_st rfl (fun _ => rfl) ?_
      show u_P L xs m d m_X12_takesText 135 [(0, .ref 100), (1, .int j1), (2, .int j2), (3, .int j3), (4, .int x4), (5, .int x5), (6, .int x6)] [.ref 100, .int x6] S R _
      refine u_getE (v := S 99 6) rfl v_tyM rfl rfl ?_
      show u_P L xs m d m_X12_takesText 138 [(0, .ref 100), (1, .int j1), (2, .int j2), (3, .int j3), (4, .int x4), (5, .int x5), (6, .int x6)] [.int (S 99 6), .int x6] S R _
      refine u_ic_ge rfl (fun h1 => ?_) (fun h1 => ?_)
      · have hD := hD.1 h1
        show u_P L xs m d m_X12_takesText 224 [(0, .ref 100), (1, .int j1), (2, .int j2), (3, .int j3), (4, .int x4), (5, .int x5), (6, .int x6)] [] S R _
        refine u_st rfl (fun _ => rfl) ?_
        refine u_st rfl (fun _ => rfl) ?_
        refine u_lc (b := [(0, .ref 100), (1, .int j1), (2, .int j2), (3, .int j3), (4, .int x4), (5, .int x5), (6, .int (Int32.ofInt 0))]) (show ([6, 0, 1, 2, 3, 4, 5] : List Nat).Nodup by decide) (show ([0, 1, 2, 3, 4, 5, 6] : List Nat).Nodup by decide) (fun i => match i with | 0 => rfl | 1 => rfl | 2 => rfl | 3 => rfl | 4 => rfl | 5 => rfl | 6 => rfl | _ + 7 => rfl) ?_
        exact (ih m hm).2.2 d j1 j2 j3 x4 x5 (Int32.ofInt 0) S hD
      · have hD := hD.2 h1
        show u_P L xs m d m_X12_takesText 141 [(0, .ref 100), (1, .int j1), (2, .int j2), (3, .int j3), (4, .int x4), (5, .int x5), (6, .int x6)] [] S R _
        refine u_st rfl (fun _ => rfl) ?_
        show u_P L xs m d m_X12_takesText 142 [(0, .ref 100), (1, .int j1), (2, .int j2), (3, .int j3), (4, .int x4), (5, .int x5), (6, .int x6)] [.ref 100] S R _
        refine u_getr rfl v_tyM rfl ?_
        refine u_st rfl (fun _ => rfl) ?_
        refine u_st rfl (fun _ => rfl) ?_
        refine u_st rfl (fun _ => rfl) ?_
        refine u_st rfl (fun _ => rfl) ?_
        show u_P L xs m d m_X12_takesText 151 [(0, .ref 100), (1, .int j1), (2, .int j2), (3, .int j3), (4, .int x4), (5, .int x5), (6, .int x6)] [.ref 100, .int (x4 + x6), .ref 102] S R _
        refine u_getr rfl v_tyM rfl ?_
        refine u_st rfl (fun _ => rfl) ?_
        show u_P L xs m d m_X12_takesText 156 [(0, .ref 100), (1, .int j1), (2, .int j2), (3, .int j3), (4, .int x4), (5, .int x5), (6, .int x6)] [.int x6, .ref 108, .int (x4 + x6), .ref 102] S R _
        refine u_ialdE (v := S 107 x6.toInt.toNat) rfl rfl rfl (fun b21 b22 => ?_)
        have hD := hD b21 b22
        show u_P L xs m d m_X12_takesText 157 [(0, .ref 100), (1, .int j1), (2, .int j2), (3, .int j3), (4, .int x4), (5, .int x5), (6, .int x6)] [.int (S 107 x6.toInt.toNat), .int (x4 + x6), .ref 102] S R _
        refine u_iast rfl rfl (fun b31 b32 => ?_)
        have hD := hD b31 b32
        show u_P L xs m d m_X12_takesText 158 [(0, .ref 100), (1, .int j1), (2, .int j2), (3, .int j3), (4, .int x4), (5, .int x5), (6, .int x6)] [] (z_s S 101 ((x4 + x6).toInt.toNat) (S 107 x6.toInt.toNat)) R _
        refine u_st rfl (fun _ => rfl) ?_
        show u_P L xs m d m_X12_takesText 159 [(0, .ref 100), (1, .int j1), (2, .int j2), (3, .int j3), (4, .int x4), (5, .int x5), (6, .int x6)] [.ref 100] (z_s S 101 ((x4 + x6).toInt.toNat) (S 107 x6.toInt.toNat)) R _
        refine u_getr rfl v_tyM rfl ?_
        refine u_st rfl (fun _ => rfl) ?_
        refine u_st rfl (fun _ => rfl) ?_
        refine u_st rfl (fun _ => rfl) ?_
        refine u_st rfl (fun _ => rfl) ?_
        refine u_st rfl (fun _ => rfl) ?_
        show u_P L xs m d m_X12_takesText 170 [(0, .ref 100), (1, .int j1), (2, .int j2), (3, .int j3), (4, .int x4), (5, .int x5), (6, .int x6)] [.ref 100, .int x5, .int (x4 + x6), .ref 103] (z_s S 101 ((x4 + x6).toInt.toNat) (S 107 x6.toInt.toNat)) R _
        refine u_getr rfl v_tyM rfl ?_
        refine u_st rfl (fun _ => rfl) ?_
        show u_P L xs m d m_X12_takesText 175 [(0, .ref 100), (1, .int j1), (2, .int j2), (3, .int j3), (4, .int x4), (5, .int x5), (6, .int x6)] [.int x6, .ref 109, .int x5, .int (x4 + x6), .ref 103] (z_s S 101 ((x4 + x6).toInt.toNat) (S 107 x6.toInt.toNat)) R _
        refine u_ialdE (v := S 108 x6.toInt.toNat) rfl rfl (z_sn (fun h => absurd h.1 (by decide))) (fun b41 b42 => ?_)
        have hD := hD b41 b42
        show u_P L xs m d m_X12_takesText 176 [(0, .ref 100), (1, .int j1), (2, .int j2), (3, .int j3), (4, .int x4), (5, .int x5), (6, .int x6)] [.int (S 108 x6.toInt.toNat), .int x5, .int (x4 + x6), .ref 103] (z_s S 101 ((x4 + x6).toInt.toNat) (S 107 x6.toInt.toNat)) R _
        refine u_st rfl (fun _ => rfl) ?_
        show u_P L xs m d m_X12_takesText 177 [(0, .ref 100), (1, .int j1), (2, .int j2), (3, .int j3), (4, .int x4), (5, .int x5), (6, .int x6)] [.int (x5 + (S 108 x6.toInt.toNat)), .int (x4 + x6), .ref 103] (z_s S 101 ((x4 + x6).toInt.toNat) (S 107 x6.toInt.toNat)) R _
        refine u_iast rfl rfl (fun b51 b52 => ?_)
        have hD := hD b51 b52
        show u_P L xs m d m_X12_takesText 178 [(0, .ref 100), (1, .int j1), (2, .int j2), (3, .int j3), (4, .int x4), (5, .int x5), (6, .int x6)] [] (z_s (z_s S 101 ((x4 + x6).toInt.toNat) (S 107 x6.toInt.toNat)) 102 ((x4 + x6).toInt.toNat) (x5 + (S 108 x6.toInt.toNat))) R _
        refine u_st rfl (fun _ => rfl) ?_
        show u_P L xs m d m_X12_takesText 179 [(0, .ref 100), (1, .int j1), (2, .int j2), (3, .int j3), (4, .int x4), (5, .int x5), (6, .int x6)] [.ref 100] (z_s (z_s S 101 ((x4 + x6).toInt.toNat) (S 107 x6.toInt.toNat)) 102 ((x4 + x6).toInt.toNat) (x5 + (S 108 x6.toInt.toNat))) R _
        refine u_getr rfl v_tyM rfl ?_
        refine u_st rfl (fun _ => rfl) ?_
        refine u_st rfl (fun _ => rfl) ?_
        refine u_st rfl (fun _ => rfl) ?_
        refine u_st rfl (fun _ => rfl) ?_
        refine u_st rfl (fun _ => rfl) ?_
        show u_P L xs m d m_X12_takesText 190 [(0, .ref 100), (1, .int j1), (2, .int j2), (3, .int j3), (4, .int x4), (5, .int x5), (6, .int x6)] [.ref 100, .int x5, .int (x4 + x6), .ref 104] (z_s (z_s S 101 ((x4 + x6).toInt.toNat) (S 107 x6.toInt.toNat)) 102 ((x4 + x6).toInt.toNat) (x5 + (S 108 x6.toInt.toNat))) R _
        refine u_getr rfl v_tyM rfl ?_
        refine u_st rfl (fun _ => rfl) ?_
        show u_P L xs m d m_X12_takesText 195 [(0, .ref 100), (1, .int j1), (2, .int j2), (3, .int j3), (4, .int x4), (5, .int x5), (6, .int x6)] [.int x6, .ref 110, .int x5, .int (x4 + x6), .ref 104] (z_s (z_s S 101 ((x4 + x6).toInt.toNat) (S 107 x6.toInt.toNat)) 102 ((x4 + x6).toInt.toNat) (x5 + (S 108 x6.toInt.toNat))) R _
        refine u_ialdE (v := S 109 x6.toInt.toNat) rfl rfl ((z_sn (fun h => absurd h.1 (by decide))).trans (z_sn (fun h => absurd h.1 (by decide)))) (fun b61 b62 => ?_)
        have hD := hD b61 b62
        show u_P L xs m d m_X12_takesText 196 [(0, .ref 100), (1, .int j1), (2, .int j2), (3, .int j3), (4, .int x4), (5, .int x5), (6, .int x6)] [.int (S 109 x6.toInt.toNat), .int x5, .int (x4 + x6), .ref 104] (z_s (z_s S 101 ((x4 + x6).toInt.toNat) (S 107 x6.toInt.toNat)) 102 ((x4 + x6).toInt.toNat) (x5 + (S 108 x6.toInt.toNat))) R _
        refine u_st rfl (fun _ => rfl) ?_
        show u_P L xs m d m_X12_takesText 197 [(0, .ref 100), (1, .int j1), (2, .int j2), (3, .int j3), (4, .int x4), (5, .int x5), (6, .int x6)] [.int (x5 + (S 109 x6.toInt.toNat)), .int (x4 + x6), .ref 104] (z_s (z_s S 101 ((x4 + x6).toInt.toNat) (S 107 x6.toInt.toNat)) 102 ((x4 + x6).toInt.toNat) (x5 + (S 108 x6.toInt.toNat))) R _
        refine u_iast rfl rfl (fun b71 b72 => ?_)
        have hD := hD b71 b72
        show u_P L xs m d m_X12_takesText 198 [(0, .ref 100), (1, .int j1), (2, .int j2), (3, .int j3), (4, .int x4), (5, .int x5), (6, .int x6)] [] (z_s (z_s (z_s S 101 ((x4 + x6).toInt.toNat) (S 107 x6.toInt.toNat)) 102 ((x4 + x6).toInt.toNat) (x5 + (S 108 x6.toInt.toNat))) 103 ((x4 + x6).toInt.toNat) (x5 + (S 109 x6.toInt.toNat))) R _
        refine u_st rfl (fun _ => rfl) ?_
        show u_P L xs m d m_X12_takesText 199 [(0, .ref 100), (1, .int j1), (2, .int j2), (3, .int j3), (4, .int x4), (5, .int x5), (6, .int x6)] [.ref 100] (z_s (z_s (z_s S 101 ((x4 + x6).toInt.toNat) (S 107 x6.toInt.toNat)) 102 ((x4 + x6).toInt.toNat) (x5 + (S 108 x6.toInt.toNat))) 103 ((x4 + x6).toInt.toNat) (x5 + (S 109 x6.toInt.toNat))) R _
        refine u_getr rfl v_tyM rfl ?_
        refine u_st rfl (fun _ => rfl) ?_
        refine u_st rfl (fun _ => rfl) ?_
        refine u_st rfl (fun _ => rfl) ?_
        refine u_st rfl (fun _ => rfl) ?_
        refine u_st rfl (fun _ => rfl) ?_
        show u_P L xs m d m_X12_takesText 210 [(0, .ref 100), (1, .int j1), (2, .int j2), (3, .int j3), (4, .int x4), (5, .int x5), (6, .int x6)] [.ref 100, .int x5, .int (x4 + x6), .ref 105] (z_s (z_s (z_s S 101 ((x4 + x6).toInt.toNat) (S 107 x6.toInt.toNat)) 102 ((x4 + x6).toInt.toNat) (x5 + (S 108 x6.toInt.toNat))) 103 ((x4 + x6).toInt.toNat) (x5 + (S 109 x6.toInt.toNat))) R _
        refine u_getr rfl v_tyM rfl ?_
        refine u_st rfl (fun _ => rfl) ?_
        show u_P L xs m d m_X12_takesText 215 [(0, .ref 100), (1, .int j1), (2, .int j2), (3, .int j3), (4, .int x4), (5, .int x5), (6, .int x6)] [.int x6, .ref 111, .int x5, .int (x4 + x6), .ref 105] (z_s (z_s (z_s S 101 ((x4 + x6).toInt.toNat) (S 107 x6.toInt.toNat)) 102 ((x4 + x6).toInt.toNat) (x5 + (S 108 x6.toInt.toNat))) 103 ((x4 + x6).toInt.toNat) (x5 + (S 109 x6.toInt.toNat))) R _
        refine u_ialdE (v := S 110 x6.toInt.toNat) rfl rfl ((z_sn (fun h => absurd h.1 (by decide))).trans ((z_sn (fun h => absurd h.1 (by decide))).trans (z_sn (fun h => absurd h.1 (by decide))))) (fun b81 b82 => ?_)
        have hD := hD b81 b82
        show u_P L xs m d m_X12_takesText 216 [(0, .ref 100), (1, .int j1), (2, .int j2), (3, .int j3), (4, .int x4), (5, .int x5), (6, .int x6)] [.int (S 110 x6.toInt.toNat), .int x5, .int (x4 + x6), .ref 105] (z_s (z_s (z_s S 101 ((x4 + x6).toInt.toNat) (S 107 x6.toInt.toNat)) 102 ((x4 + x6).toInt.toNat) (x5 + (S 108 x6.toInt.toNat))) 103 ((x4 + x6).toInt.toNat) (x5 + (S 109 x6.toInt.toNat))) R _
        refine u_st rfl (fun _ => rfl) ?_
        show u_P L xs m d m_X12_takesText 217 [(0, .ref 100), (1, .int j1), (2, .int j2), (3, .int j3), (4, .int x4), (5, .int x5), (6, .int x6)] [.int (x5 + (S 110 x6.toInt.toNat)), .int (x4 + x6), .ref 105] (z_s (z_s (z_s S 101 ((x4 + x6).toInt.toNat) (S 107 x6.toInt.toNat)) 102 ((x4 + x6).toInt.toNat) (x5 + (S 108 x6.toInt.toNat))) 103 ((x4 + x6).toInt.toNat) (x5 + (S 109 x6.toInt.toNat))) R _
        refine u_iast rfl rfl (fun b91 b92 => ?_)
        have hD := hD b91 b92
        show u_P L xs m d m_X12_takesText 218 [(0, .ref 100), (1, .int j1), (2, .int j2), (3, .int j3), (4, .int x4), (5, .int x5), (6, .int x6)] [] (z_s (z_s (z_s (z_s S 101 ((x4 + x6).toInt.toNat) (S 107 x6.toInt.toNat)) 102 ((x4 + x6).toInt.toNat) (x5 + (S 108 x6.toInt.toNat))) 103 ((x4 + x6).toInt.toNat) (x5 + (S 109 x6.toInt.toNat))) 104 ((x4 + x6).toInt.toNat) (x5 + (S 110 x6.toInt.toNat))) R _
        refine u_st rfl (fun _ => rfl) ?_
        refine u_st rfl (fun _ => rfl) ?_
        refine u_lc (b := [(0, .ref 100), (1, .int j1), (2, .int j2), (3, .int j3), (4, .int x4), (5, .int x5), (6, .int (x6 + (Int32.ofInt 1)))]) (show ([6, 0, 1, 2, 3, 4, 5] : List Nat).Nodup by decide) (show ([0, 1, 2, 3, 4, 5, 6] : List Nat).Nodup by decide) (fun i => match i with | 0 => rfl | 1 => rfl | 2 => rfl | 3 => rfl | 4 => rfl | 5 => rfl | 6 => rfl | _ + 7 => rfl) ?_
        exact (ih m hm).2.1 d j1 j2 j3 x4 x5 (x6 + (Int32.ofInt 1)) (z_s (z_s (z_s (z_s S 101 ((x4 + x6).toInt.toNat) (S 107 x6.toInt.toNat)) 102 ((x4 + x6).toInt.toNat) (x5 + (S 108 x6.toInt.toNat))) 103 ((x4 + x6).toInt.toNat) (x5 + (S 109 x6.toInt.toNat))) 104 ((x4 + x6).toInt.toNat) (x5 + (S 110 x6.toInt.toNat))) hD
    · intro d j1 j2 j3 j4 x5 x6 S hD
      have hD := k227 x5 x6 S hD
      unfold D_X12_takesText_227 at hD
      show u_P L xs n d m_X12_takesText 227 [(0, .ref 100), (1, .int j1), (2, .int j2), (3, .int j3), (4, .int j4), (5, .int x5), (6, .int x6)] [] S R _
      refine u_st1 rfl (fun _ => rfl) (fun m hm => ?_)
      refine u_st rfl (fun _ => rfl) ?_
      show u_P L xs m d m_X12_takesText 230 [(0, .ref 100), (1, .int j1), (2, .int j2), (3, .int j3), (4, .int j4), (5, .int x5), (6, .int x6)] [.ref 100, .int x6] S R _
      refine u_getE (v := S 99 7) rfl v_tyM rfl rfl ?_
      show u_P L xs m d m_X12_takesText 233 [(0, .ref 100), (1, .int j1), (2, .int j2), (3, .int j3), (4, .int j4), (5, .int x5), (6, .int x6)] [.int (S 99 7), .int x6] S R _
      refine u_ic_ge rfl (fun h1 => ?_) (fun h1 => ?_)
      · have hD := hD.1 h1
        show u_P L xs m d m_X12_takesText 276 [(0, .ref 100), (1, .int j1), (2, .int j2), (3, .int j3), (4, .int j4), (5, .int x5), (6, .int x6)] [] S R _
        refine u_st rfl (fun _ => rfl) ?_
        show u_P L xs m d m_X12_takesText 277 [(0, .ref 100), (1, .int j1), (2, .int j2), (3, .int j3), (4, .int j4), (5, .int x5), (6, .int x6)] [.ref 100] S R _
        refine u_getE (v := S 99 6) rfl v_tyM rfl rfl ?_
        show u_P L xs m d m_X12_takesText 280 [(0, .ref 100), (1, .int j1), (2, .int j2), (3, .int j3), (4, .int j4), (5, .int x5), (6, .int x6)] [.int (S 99 6)] S R _
        exact u_ret rfl rfl ⟨_, rfl, rfl, hD⟩
      · have hD := hD.2 h1
        show u_P L xs m d m_X12_takesText 236 [(0, .ref 100), (1, .int j1), (2, .int j2), (3, .int j3), (4, .int j4), (5, .int x5), (6, .int x6)] [] S R _
        refine u_st rfl (fun _ => rfl) ?_
        show u_P L xs m d m_X12_takesText 237 [(0, .ref 100), (1, .int j1), (2, .int j2), (3, .int j3), (4, .int j4), (5, .int x5), (6, .int x6)] [.ref 100] S R _
        refine u_getr rfl v_tyM rfl ?_
        refine u_st rfl (fun _ => rfl) ?_
        refine u_st rfl (fun _ => rfl) ?_
        refine u_st rfl (fun _ => rfl) ?_
        refine u_st rfl (fun _ => rfl) ?_
        show u_P L xs m d m_X12_takesText 246 [(0, .ref 100), (1, .int j1), (2, .int j2), (3, .int j3), (4, .int j4), (5, .int x5), (6, .int x6)] [.ref 100, .int (x5 + x6), .ref 106] S R _
        refine u_getr rfl v_tyM rfl ?_
        refine u_st rfl (fun _ => rfl) ?_
        show u_P L xs m d m_X12_takesText 251 [(0, .ref 100), (1, .int j1), (2, .int j2), (3, .int j3), (4, .int j4), (5, .int x5), (6, .int x6)] [.int x6, .ref 112, .int (x5 + x6), .ref 106] S R _
        refine u_ialdE (v := S 111 x6.toInt.toNat) rfl rfl rfl (fun b21 b22 => ?_)
        have hD := hD b21 b22
        show u_P L xs m d m_X12_takesText 252 [(0, .ref 100), (1, .int j1), (2, .int j2), (3, .int j3), (4, .int j4), (5, .int x5), (6, .int x6)] [.int (S 111 x6.toInt.toNat), .int (x5 + x6), .ref 106] S R _
        refine u_iast rfl rfl (fun b31 b32 => ?_)
        have hD := hD b31 b32
        show u_P L xs m d m_X12_takesText 253 [(0, .ref 100), (1, .int j1), (2, .int j2), (3, .int j3), (4, .int j4), (5, .int x5), (6, .int x6)] [] (z_s S 105 ((x5 + x6).toInt.toNat) (S 111 x6.toInt.toNat)) R _
        refine u_st rfl (fun _ => rfl) ?_
        show u_P L xs m d m_X12_takesText 254 [(0, .ref 100), (1, .int j1), (2, .int j2), (3, .int j3), (4, .int j4), (5, .int x5), (6, .int x6)] [.ref 100] (z_s S 105 ((x5 + x6).toInt.toNat) (S 111 x6.toInt.toNat)) R _
        refine u_getr rfl v_tyM rfl ?_
        refine u_st rfl (fun _ => rfl) ?_
        refine u_st rfl (fun _ => rfl) ?_
        refine u_st rfl (fun _ => rfl) ?_
        refine u_st rfl (fun _ => rfl) ?_
        show u_P L xs m d m_X12_takesText 263 [(0, .ref 100), (1, .int j1), (2, .int j2), (3, .int j3), (4, .int j4), (5, .int x5), (6, .int x6)] [.ref 100, .int (x5 + x6), .ref 107] (z_s S 105 ((x5 + x6).toInt.toNat) (S 111 x6.toInt.toNat)) R _
        refine u_getr rfl v_tyM rfl ?_
        refine u_st rfl (fun _ => rfl) ?_
        show u_P L xs m d m_X12_takesText 268 [(0, .ref 100), (1, .int j1), (2, .int j2), (3, .int j3), (4, .int j4), (5, .int x5), (6, .int x6)] [.int x6, .ref 113, .int (x5 + x6), .ref 107] (z_s S 105 ((x5 + x6).toInt.toNat) (S 111 x6.toInt.toNat)) R _
        refine u_ialdE (v := S 112 x6.toInt.toNat) rfl rfl (z_sn (fun h => absurd h.1 (by decide))) (fun b41 b42 => ?_)
        have hD := hD b41 b42
        show u_P L xs m d m_X12_takesText 269 [(0, .ref 100), (1, .int j1), (2, .int j2), (3, .int j3), (4, .int j4), (5, .int x5), (6, .int x6)] [.int (S 112 x6.toInt.toNat), .int (x5 + x6), .ref 107] (z_s S 105 ((x5 + x6).toInt.toNat) (S 111 x6.toInt.toNat)) R _
        refine u_iast rfl rfl (fun b51 b52 => ?_)
        have hD := hD b51 b52
        show u_P L xs m d m_X12_takesText 270 [(0, .ref 100), (1, .int j1), (2, .int j2), (3, .int j3), (4, .int j4), (5, .int x5), (6, .int x6)] [] (z_s (z_s S 105 ((x5 + x6).toInt.toNat) (S 111 x6.toInt.toNat)) 106 ((x5 + x6).toInt.toNat) (S 112 x6.toInt.toNat)) R _
        refine u_st rfl (fun _ => rfl) ?_
        refine u_st rfl (fun _ => rfl) ?_
        refine u_lc (b := [(0, .ref 100), (1, .int j1), (2, .int j2), (3, .int j3), (4, .int j4), (5, .int x5), (6, .int (x6 + (Int32.ofInt 1)))]) (show ([6, 0, 1, 2, 3, 4, 5] : List Nat).Nodup by decide) (show ([0, 1, 2, 3, 4, 5, 6] : List Nat).Nodup by decide) (fun i => match i with | 0 => rfl | 1 => rfl | 2 => rfl | 3 => rfl | 4 => rfl | 5 => rfl | 6 => rfl | _ + 7 => rfl) ?_
        exact (ih m hm).2.2 d j1 j2 j3 j4 x5 (x6 + (Int32.ofInt 1)) (z_s (z_s S 105 ((x5 + x6).toInt.toNat) (S 111 x6.toInt.toNat)) 106 ((x5 + x6).toInt.toNat) (S 112 x6.toInt.toNat)) hD
set_option maxRecDepth 4000 in
theorem w_X12_takesText (L : Nat) (xs : Nat → Int32) {R : v_Rf} (a : Int32) (b : Int32) (H17 : Int32 → Int32 → v_Sf → Prop) (H132 : Int32 → Int32 → Int32 → v_Sf → Prop) (H227 : Int32 → Int32 → v_Sf → Prop) (K : Int32 → v_Sf → Prop) (k17 : ∀ (x2 : Int32) (x3 : Int32) (S : v_Sf), H17 x2 x3 S → D_X12_takesText_17 H17 H132 H227 K x2 x3 S) (k132 : ∀ (x4 : Int32) (x5 : Int32) (x6 : Int32) (S : v_Sf), H132 x4 x5 x6 S → D_X12_takesText_132 H17 H132 H227 K x4 x5 x6 S) (k227 : ∀ (x5 : Int32) (x6 : Int32) (S : v_Sf), H227 x5 x6 S → D_X12_takesText_227 H17 H132 H227 K x5 x6 S) (n d : Nat) (S : v_Sf) (hD : D_X12_takesText a b H17 H132 H227 K S) : u_P L xs n d m_X12_takesText 0 (lv_args 0 [.ref 100, .int a, .int b]) [] S R (z_Q R K) := by
  unfold D_X12_takesText at hD
  show u_P L xs n d m_X12_takesText 0 [(0, .ref 100), (1, .int a), (2, .int b)] [] S R _
  refine u_st rfl (fun _ => rfl) ?_
  refine u_st rfl (fun _ => rfl) ?_
  show u_P L xs n d m_X12_takesText 2 [(0, .ref 100), (1, .int a), (2, .int b)] [.int a, .ref 100] S R _
  refine u_cv (rest := []) rfl (by decide) mt_X12_begins v_tyM rfl rfl rfl (Nat.le_of_ble_eq_true rfl) (Nat.le_of_ble_eq_true rfl) (Nat.le_of_ble_eq_true rfl) (fun d' => c_X12_begins L xs n d' a S R) ?_
  rintro _ _ _ ⟨rfl, rfl, rfl⟩
  refine u_st rfl (fun _ => rfl) ?_
  refine u_st rfl (fun _ => rfl) ?_
  show u_P L xs n d m_X12_takesText 7 [(0, .ref 100), (1, .int a), (2, .int b)] [.int (Int32.ofInt 0), .ref 100] (g_X12_begins a S) R _
  refine u_put rfl v_tyM rfl ?_
  refine u_st rfl (fun _ => rfl) ?_
  refine u_st rfl (fun _ => rfl) ?_
  show u_P L xs n d m_X12_takesText 12 [(0, .ref 100), (1, .int a), (2, .int b)] [.int (Int32.ofInt 0), .ref 100] (z_s (g_X12_begins a S) 99 6 (Int32.ofInt 0)) R _
  refine u_put rfl v_tyM rfl ?_
  refine u_st rfl (fun _ => rfl) ?_
  refine u_st rfl (fun _ => rfl) ?_
  refine u_lc (b := [(0, .ref 100), (1, .int a), (2, .int b), (3, .int (Int32.ofInt 1))]) (show ([3, 0, 1, 2] : List Nat).Nodup by decide) (show ([0, 1, 2, 3] : List Nat).Nodup by decide) (fun i => match i with | 0 => rfl | 1 => rfl | 2 => rfl | 3 => rfl | _ + 4 => rfl) ?_
  exact (hd_X12_takesText L xs a b H17 H132 H227 K k17 k132 k227 n).1 d a b (Int32.ofInt 1) (z_s (z_s (g_X12_begins a S) 99 6 (Int32.ofInt 0)) 99 7 (Int32.ofInt 0)) hD
noncomputable def s_X12_takesText_227 (x2 : Int32) (x5 : Int32) (x6 : Int32) (S : v_Sf) : (Int32 × Int32 × v_Sf) ⊕ (Int32 × v_Sf) := (if (S 99 7) ≤ x6 then (Sum.inr ((S 99 6, S))) else (Sum.inl (x5, (x6 + (Int32.ofInt 1)), (z_s (z_s S 105 ((x5 + x6).toInt.toNat) (S 111 x6.toInt.toNat)) 106 ((x5 + x6).toInt.toNat) (S 112 x6.toInt.toNat)))))
noncomputable def s_X12_takesText_132 (x2 : Int32) (x4 : Int32) (x5 : Int32) (x6 : Int32) (S : v_Sf) : (Int32 × Int32 × Int32 × v_Sf) ⊕ (Int32 × v_Sf) := (if (S 99 6) ≤ x6 then (Sum.inr (z_lim (fun p => s_X12_takesText_227 x2 p.1 p.2.1 p.2.2) (Int32.ofInt 0, S) (x5, (Int32.ofInt 0), S))) else (Sum.inl (x4, x5, (x6 + (Int32.ofInt 1)), (z_s (z_s (z_s (z_s S 101 ((x4 + x6).toInt.toNat) (S 107 x6.toInt.toNat)) 102 ((x4 + x6).toInt.toNat) (x5 + (S 108 x6.toInt.toNat))) 103 ((x4 + x6).toInt.toNat) (x5 + (S 109 x6.toInt.toNat))) 104 ((x4 + x6).toInt.toNat) (x5 + (S 110 x6.toInt.toNat))))))
noncomputable def s_X12_takesText_17 (x2 : Int32) (x3 : Int32) (S : v_Sf) : (Int32 × v_Sf) ⊕ (Int32 × v_Sf) := (if x3 = 0 then (if 0 ≤ (S 99 5) then (if x2 = 0 then (Sum.inr (z_lim (fun p => s_X12_takesText_132 x2 p.1 p.2.1 p.2.2.1 p.2.2.2) (Int32.ofInt 0, S) ((Int32.ofInt 0), (Int32.ofInt 0), (Int32.ofInt 0), S))) else (Sum.inr (z_lim (fun p => s_X12_takesText_132 x2 p.1 p.2.1 p.2.2.1 p.2.2.2) (Int32.ofInt 0, S) ((Int32.ofInt 16), (Int32.ofInt 240), (Int32.ofInt 0), S)))) else (Sum.inr ((S 99 5, S)))) else (if (f_X12_isGood S) = 0 then (if 0 ≤ (S 99 5) then (if x2 = 0 then (Sum.inr (z_lim (fun p => s_X12_takesText_132 x2 p.1 p.2.1 p.2.2.1 p.2.2.2) (Int32.ofInt 0, S) ((Int32.ofInt 0), (Int32.ofInt 0), (Int32.ofInt 0), S))) else (Sum.inr (z_lim (fun p => s_X12_takesText_132 x2 p.1 p.2.1 p.2.2.1 p.2.2.2) (Int32.ofInt 0, S) ((Int32.ofInt 16), (Int32.ofInt 240), (Int32.ofInt 0), S)))) else (Sum.inr ((S 99 5, S)))) else (if (f_X12_isGood (g_X12_clause x2 S)) = 0 then (Sum.inl ((Int32.ofInt 0), (g_X12_clause x2 S))) else (if ((g_X12_clause x2 S) 99 4) ≤ ((g_X12_clause x2 S) 99 3) then (Sum.inl ((Int32.ofInt 0), (g_X12_clause x2 S))) else (if (f_X12_here (g_X12_clause x2 S)) = (Int32.ofInt 59) then (Sum.inl ((Int32.ofInt 1), (z_s (g_X12_clause x2 S) 99 3 (((g_X12_clause x2 S) 99 3) + (Int32.ofInt 1))))) else (Sum.inl ((Int32.ofInt 1), (z_s (g_X12_wrongs (Int32.ofInt 1) ((g_X12_clause x2 S) 99 3) (g_X12_clause x2 S)) 99 3 (((g_X12_wrongs (Int32.ofInt 1) ((g_X12_clause x2 S) 99 3) (g_X12_clause x2 S)) 99 3) + (Int32.ofInt 1))))))))))
noncomputable def F_X12_takesText (a : Int32) (b : Int32) (S : v_Sf) : Int32 × v_Sf := z_lim (fun p => s_X12_takesText_17 b p.1 p.2) (Int32.ofInt 0, S) ((Int32.ofInt 1), (z_s (z_s (g_X12_begins a S) 99 6 (Int32.ofInt 0)) 99 7 (Int32.ofInt 0)))
noncomputable def f_X12_takesText (a : Int32) (b : Int32) (S : v_Sf) : Int32 := (F_X12_takesText a b S).1
noncomputable def g_X12_takesText (a : Int32) (b : Int32) (S : v_Sf) : v_Sf := (F_X12_takesText a b S).2
theorem c_X12_takesText (L : Nat) (xs : Nat → Int32) (n d : Nat) (a : Int32) (b : Int32) (S : v_Sf) (R : v_Rf) : u_P L xs n d m_X12_takesText 0 (lv_args 0 [.ref 100, .int a, .int b]) [] S R (z_Q R (fun v S1 => f_X12_takesText a b S = v ∧ g_X12_takesText a b S = S1)) := by
  refine w_X12_takesText L xs a b (fun y2 y3 T => b = y2 ∧ (∀ N out, z_itr (fun p => s_X12_takesText_17 b p.1 p.2) N (y3, T) = some out → F_X12_takesText a b S = out)) (fun y4 y5 y6 T => (∀ N out, z_itr (fun p => s_X12_takesText_132 b p.1 p.2.1 p.2.2.1 p.2.2.2) N (y4, y5, y6, T) = some out → F_X12_takesText a b S = out)) (fun y5 y6 T => (∀ N out, z_itr (fun p => s_X12_takesText_227 b p.1 p.2.1 p.2.2) N (y5, y6, T) = some out → F_X12_takesText a b S = out)) (fun v S1 => f_X12_takesText a b S = v ∧ g_X12_takesText a b S = S1) ?_ ?_ ?_ n d S ?_
  · rintro _ x3 S1 ⟨rfl, e⟩
    unfold D_X12_takesText_17
    refine ⟨fun q1 => ?_, fun q1 => ?_⟩
    · refine ⟨fun q2 => ?_, fun q2 => ?_⟩
      · refine ⟨fun q3 => ?_, fun q3 => ?_⟩
        · have e := (e 1 _ (z_itr_r (by show s_X12_takesText_17 b x3 S1 = _; rw [s_X12_takesText_17, if_pos q1, if_pos q2, if_pos q3]))).symm
          exact fun N out h => e.symm.trans (z_lim_eq h)
        · have e := (e 1 _ (z_itr_r (by show s_X12_takesText_17 b x3 S1 = _; rw [s_X12_takesText_17, if_pos q1, if_pos q2, if_neg q3]))).symm
          exact fun N out h => e.symm.trans (z_lim_eq h)
      · have e := (e 1 _ (z_itr_r (by show s_X12_takesText_17 b x3 S1 = _; rw [s_X12_takesText_17, if_pos q1, if_neg q2]))).symm
        have e1 := congrArg Prod.fst e.symm
        have e2 := congrArg Prod.snd e.symm
        exact ⟨e1, e2⟩
    · refine ⟨fun q4 => ?_, fun q4 => ?_⟩
      · refine ⟨fun q5 => ?_, fun q5 => ?_⟩
        · refine ⟨fun q6 => ?_, fun q6 => ?_⟩
          · have e := (e 1 _ (z_itr_r (by show s_X12_takesText_17 b x3 S1 = _; rw [s_X12_takesText_17, if_neg q1, if_pos q4, if_pos q5, if_pos q6]))).symm
            exact fun N out h => e.symm.trans (z_lim_eq h)
          · have e := (e 1 _ (z_itr_r (by show s_X12_takesText_17 b x3 S1 = _; rw [s_X12_takesText_17, if_neg q1, if_pos q4, if_pos q5, if_neg q6]))).symm
            exact fun N out h => e.symm.trans (z_lim_eq h)
        · have e := (e 1 _ (z_itr_r (by show s_X12_takesText_17 b x3 S1 = _; rw [s_X12_takesText_17, if_neg q1, if_pos q4, if_neg q5]))).symm
          have e1 := congrArg Prod.fst e.symm
          have e2 := congrArg Prod.snd e.symm
          exact ⟨e1, e2⟩
      · refine ⟨fun q7 => ?_, fun q7 => ?_⟩
        · exact ⟨rfl, fun N out h => e (N + 1) out ((z_itr_l (by show s_X12_takesText_17 b x3 S1 = _; rw [s_X12_takesText_17, if_neg q1, if_neg q4, if_pos q7])).trans h)⟩
        · refine ⟨fun q8 => ?_, fun q8 => ?_⟩
          · exact ⟨rfl, fun N out h => e (N + 1) out ((z_itr_l (by show s_X12_takesText_17 b x3 S1 = _; rw [s_X12_takesText_17, if_neg q1, if_neg q4, if_neg q7, if_pos q8])).trans h)⟩
          · refine ⟨fun q9 => ?_, fun q9 => ?_⟩
            · exact ⟨rfl, fun N out h => e (N + 1) out ((z_itr_l (by show s_X12_takesText_17 b x3 S1 = _; rw [s_X12_takesText_17, if_neg q1, if_neg q4, if_neg q7, if_neg q8, if_pos q9])).trans h)⟩
            · exact ⟨rfl, fun N out h => e (N + 1) out ((z_itr_l (by show s_X12_takesText_17 b x3 S1 = _; rw [s_X12_takesText_17, if_neg q1, if_neg q4, if_neg q7, if_neg q8, if_neg q9])).trans h)⟩
  · rintro x4 x5 x6 S1 e
    unfold D_X12_takesText_132
    refine ⟨fun q10 => ?_, fun q10 => ?_⟩
    · have e := (e 1 _ (z_itr_r (by show s_X12_takesText_132 b x4 x5 x6 S1 = _; rw [s_X12_takesText_132, if_pos q10]))).symm
      exact fun N out h => e.symm.trans (z_lim_eq h)
    · intro _ _
      intro _ _
      intro _ _
      intro _ _
      intro _ _
      intro _ _
      intro _ _
      intro _ _
      exact fun N out h => e (N + 1) out ((z_itr_l (by show s_X12_takesText_132 b x4 x5 x6 S1 = _; rw [s_X12_takesText_132, if_neg q10])).trans h)
  · rintro x5 x6 S1 e
    unfold D_X12_takesText_227
    refine ⟨fun q11 => ?_, fun q11 => ?_⟩
    · have e := (e 1 _ (z_itr_r (by show s_X12_takesText_227 b x5 x6 S1 = _; rw [s_X12_takesText_227, if_pos q11]))).symm
      have e1 := congrArg Prod.fst e.symm
      have e2 := congrArg Prod.snd e.symm
      exact ⟨e1, e2⟩
    · intro _ _
      intro _ _
      intro _ _
      intro _ _
      exact fun N out h => e (N + 1) out ((z_itr_l (by show s_X12_takesText_227 b x5 x6 S1 = _; rw [s_X12_takesText_227, if_neg q11])).trans h)
  · unfold D_X12_takesText
    have e : z_lim (fun p => s_X12_takesText_17 b p.1 p.2) (Int32.ofInt 0, S) ((Int32.ofInt 1), (z_s (z_s (g_X12_begins a S) 99 6 (Int32.ofInt 0)) 99 7 (Int32.ofInt 0))) = F_X12_takesText a b S := by rw [F_X12_takesText]
    exact ⟨rfl, fun N out h => e.symm.trans (z_lim_eq h)⟩
noncomputable def f_X12_law (a : Int32) (S : v_Sf) : Int32 := (if (z_in a 1 240) = 0 then Int32.ofInt (-1) else (if a ≤ (S 99 1) then (if (f_X12_takesText a (Int32.ofInt 0) S) < 0 then f_X12_takesText a (Int32.ofInt 0) S else f_X12_takesText a (Int32.ofInt 0) S) else Int32.ofInt (-1)))
noncomputable def g_X12_law (a : Int32) (S : v_Sf) : v_Sf := (if (z_in a 1 240) = 0 then S else (if a ≤ (S 99 1) then (if (f_X12_takesText a (Int32.ofInt 0) S) < 0 then g_X12_takesText a (Int32.ofInt 0) S else z_s (g_X12_takesText a (Int32.ofInt 0) S) 99 16 (f_X12_takesText a (Int32.ofInt 0) S)) else S))
set_option maxRecDepth 4000 in
theorem c_X12_law (L : Nat) (xs : Nat → Int32) (n d : Nat) (a : Int32) (S : v_Sf) (R : v_Rf) : u_P L xs n d m_X12_law 0 (lv_args 0 [.ref 100, .int a]) [] S R (z_Q R (fun v S1 => f_X12_law a S = v ∧ g_X12_law a S = S1)) := by
  show u_P L xs n d m_X12_law 0 [(0, .ref 100), (1, .int a)] [] S R _
  refine u_st rfl (fun _ => rfl) ?_
  refine u_st rfl (fun _ => rfl) ?_
  refine u_st rfl (fun _ => rfl) ?_
  refine u_st rfl (fun _ => rfl) ?_
  show u_P L xs n d m_X12_law 6 [(0, .ref 100), (1, .int a)] [.long (Int64.ofInt 240), .long (Int64.ofNat 1), .long a.toInt64] S R _
  refine u_cs (ac := [.long a.toInt64, .long (Int64.ofNat 1), .long (Int64.ofInt 240)]) (rest := []) rfl (by decide) mt_X12_lies (fun _ => rfl) (Nat.le_of_ble_eq_true rfl) (Nat.le_of_ble_eq_true rfl) (fun d' => z_liesC L xs n d' a (Int64.ofNat 1) (Int64.ofInt 240) (lo := 1) (hi := 240) rfl rfl S R) ?_
  rintro _ _ _ ⟨_, rfl, rfl, rfl, rfl⟩
  show u_P L xs n d m_X12_law 9 [(0, .ref 100), (1, .int a)] [.int (z_in a 1 240)] S R _
  refine u_if_eq rfl (fun h1 => ?_) (fun h1 => ?_)
  · show u_P L xs n d m_X12_law 20 [(0, .ref 100), (1, .int a)] [] S R _
    refine u_st rfl (fun _ => rfl) ?_
    show u_P L xs n d m_X12_law 21 [(0, .ref 100), (1, .int a)] [.int (Int32.ofInt (-1))] S R _
    exact u_ret rfl rfl ⟨_, rfl, rfl, by rw [f_X12_law, if_pos h1], by rw [g_X12_law, if_pos h1]⟩
  · show u_P L xs n d m_X12_law 12 [(0, .ref 100), (1, .int a)] [] S R _
    refine u_st rfl (fun _ => rfl) ?_
    refine u_st rfl (fun _ => rfl) ?_
    show u_P L xs n d m_X12_law 14 [(0, .ref 100), (1, .int a)] [.ref 100, .int a] S R _
    refine u_getE (v := S 99 1) rfl v_tyM rfl rfl ?_
    show u_P L xs n d m_X12_law 17 [(0, .ref 100), (1, .int a)] [.int (S 99 1), .int a] S R _
    refine u_ic_le rfl (fun h2 => ?_) (fun h2 => ?_)
    · show u_P L xs n d m_X12_law 22 [(0, .ref 100), (1, .int a)] [] S R _
      refine u_st rfl (fun _ => rfl) ?_
      refine u_st rfl (fun _ => rfl) ?_
      refine u_st rfl (fun _ => rfl) ?_
      show u_P L xs n d m_X12_law 25 [(0, .ref 100), (1, .int a)] [.int (Int32.ofInt 0), .int a, .ref 100] S R _
      refine u_cv (rest := []) rfl (by decide) mt_X12_takesText v_tyM rfl rfl rfl (Nat.le_of_ble_eq_true rfl) (Nat.le_of_ble_eq_true rfl) (Nat.le_of_ble_eq_true rfl) (fun d' => c_X12_takesText L xs n d' a (Int32.ofInt 0) S R) ?_
      rintro _ _ _ ⟨_, rfl, rfl, rfl, rfl⟩
      refine u_st rfl (fun _ => rfl) ?_
      refine u_st rfl (fun _ => rfl) ?_
      show u_P L xs n d m_X12_law 30 [(2, .int (f_X12_takesText a (Int32.ofInt 0) S)), (0, .ref 100), (1, .int a)] [.int (f_X12_takesText a (Int32.ofInt 0) S)] (g_X12_takesText a (Int32.ofInt 0) S) R _
      refine u_if_lt rfl (fun h3 => ?_) (fun h3 => ?_)
      · show u_P L xs n d m_X12_law 38 [(2, .int (f_X12_takesText a (Int32.ofInt 0) S)), (0, .ref 100), (1, .int a)] [] (g_X12_takesText a (Int32.ofInt 0) S) R _
        refine u_st rfl (fun _ => rfl) ?_
        show u_P L xs n d m_X12_law 39 [(2, .int (f_X12_takesText a (Int32.ofInt 0) S)), (0, .ref 100), (1, .int a)] [.int (f_X12_takesText a (Int32.ofInt 0) S)] (g_X12_takesText a (Int32.ofInt 0) S) R _
        exact u_ret rfl rfl ⟨_, rfl, rfl, by rw [f_X12_law, if_neg h1, if_pos h2, if_pos h3], by rw [g_X12_law, if_neg h1, if_pos h2, if_pos h3]⟩
      · show u_P L xs n d m_X12_law 33 [(2, .int (f_X12_takesText a (Int32.ofInt 0) S)), (0, .ref 100), (1, .int a)] [] (g_X12_takesText a (Int32.ofInt 0) S) R _
        refine u_st rfl (fun _ => rfl) ?_
        refine u_st rfl (fun _ => rfl) ?_
        show u_P L xs n d m_X12_law 35 [(2, .int (f_X12_takesText a (Int32.ofInt 0) S)), (0, .ref 100), (1, .int a)] [.int (f_X12_takesText a (Int32.ofInt 0) S), .ref 100] (g_X12_takesText a (Int32.ofInt 0) S) R _
        refine u_put rfl v_tyM rfl ?_
        refine u_st rfl (fun _ => rfl) ?_
        show u_P L xs n d m_X12_law 39 [(2, .int (f_X12_takesText a (Int32.ofInt 0) S)), (0, .ref 100), (1, .int a)] [.int (f_X12_takesText a (Int32.ofInt 0) S)] (z_s (g_X12_takesText a (Int32.ofInt 0) S) 99 16 (f_X12_takesText a (Int32.ofInt 0) S)) R _
        exact u_ret rfl rfl ⟨_, rfl, rfl, by rw [f_X12_law, if_neg h1, if_pos h2, if_neg h3], by rw [g_X12_law, if_neg h1, if_pos h2, if_neg h3]⟩
    · show u_P L xs n d m_X12_law 20 [(0, .ref 100), (1, .int a)] [] S R _
      refine u_st rfl (fun _ => rfl) ?_
      show u_P L xs n d m_X12_law 21 [(0, .ref 100), (1, .int a)] [.int (Int32.ofInt (-1))] S R _
      exact u_ret rfl rfl ⟨_, rfl, rfl, by rw [f_X12_law, if_neg h1, if_neg h2], by rw [g_X12_law, if_neg h1, if_neg h2]⟩
noncomputable def f_X12_rules (a : Int32) (S : v_Sf) : Int32 := (if (z_in a 1 240) = 0 then Int32.ofInt (-1) else (if a ≤ (S 99 1) then (if (f_X12_takesText a (Int32.ofInt 1) S) < 0 then f_X12_takesText a (Int32.ofInt 1) S else f_X12_takesText a (Int32.ofInt 1) S) else Int32.ofInt (-1)))
noncomputable def g_X12_rules (a : Int32) (S : v_Sf) : v_Sf := (if (z_in a 1 240) = 0 then S else (if a ≤ (S 99 1) then (if (f_X12_takesText a (Int32.ofInt 1) S) < 0 then g_X12_takesText a (Int32.ofInt 1) S else z_s (g_X12_takesText a (Int32.ofInt 1) S) 99 17 (f_X12_takesText a (Int32.ofInt 1) S)) else S))
set_option maxRecDepth 4000 in
theorem c_X12_rules (L : Nat) (xs : Nat → Int32) (n d : Nat) (a : Int32) (S : v_Sf) (R : v_Rf) : u_P L xs n d m_X12_rules 0 (lv_args 0 [.ref 100, .int a]) [] S R (z_Q R (fun v S1 => f_X12_rules a S = v ∧ g_X12_rules a S = S1)) := by
  show u_P L xs n d m_X12_rules 0 [(0, .ref 100), (1, .int a)] [] S R _
  refine u_st rfl (fun _ => rfl) ?_
  refine u_st rfl (fun _ => rfl) ?_
  refine u_st rfl (fun _ => rfl) ?_
  refine u_st rfl (fun _ => rfl) ?_
  show u_P L xs n d m_X12_rules 6 [(0, .ref 100), (1, .int a)] [.long (Int64.ofInt 240), .long (Int64.ofNat 1), .long a.toInt64] S R _
  refine u_cs (ac := [.long a.toInt64, .long (Int64.ofNat 1), .long (Int64.ofInt 240)]) (rest := []) rfl (by decide) mt_X12_lies (fun _ => rfl) (Nat.le_of_ble_eq_true rfl) (Nat.le_of_ble_eq_true rfl) (fun d' => z_liesC L xs n d' a (Int64.ofNat 1) (Int64.ofInt 240) (lo := 1) (hi := 240) rfl rfl S R) ?_
  rintro _ _ _ ⟨_, rfl, rfl, rfl, rfl⟩
  show u_P L xs n d m_X12_rules 9 [(0, .ref 100), (1, .int a)] [.int (z_in a 1 240)] S R _
  refine u_if_eq rfl (fun h1 => ?_) (fun h1 => ?_)
  · show u_P L xs n d m_X12_rules 20 [(0, .ref 100), (1, .int a)] [] S R _
    refine u_st rfl (fun _ => rfl) ?_
    show u_P L xs n d m_X12_rules 21 [(0, .ref 100), (1, .int a)] [.int (Int32.ofInt (-1))] S R _
    exact u_ret rfl rfl ⟨_, rfl, rfl, by rw [f_X12_rules, if_pos h1], by rw [g_X12_rules, if_pos h1]⟩
  · show u_P L xs n d m_X12_rules 12 [(0, .ref 100), (1, .int a)] [] S R _
    refine u_st rfl (fun _ => rfl) ?_
    refine u_st rfl (fun _ => rfl) ?_
    show u_P L xs n d m_X12_rules 14 [(0, .ref 100), (1, .int a)] [.ref 100, .int a] S R _
    refine u_getE (v := S 99 1) rfl v_tyM rfl rfl ?_
    show u_P L xs n d m_X12_rules 17 [(0, .ref 100), (1, .int a)] [.int (S 99 1), .int a] S R _
    refine u_ic_le rfl (fun h2 => ?_) (fun h2 => ?_)
    · show u_P L xs n d m_X12_rules 22 [(0, .ref 100), (1, .int a)] [] S R _
      refine u_st rfl (fun _ => rfl) ?_
      refine u_st rfl (fun _ => rfl) ?_
      refine u_st rfl (fun _ => rfl) ?_
      show u_P L xs n d m_X12_rules 25 [(0, .ref 100), (1, .int a)] [.int (Int32.ofInt 1), .int a, .ref 100] S R _
      refine u_cv (rest := []) rfl (by decide) mt_X12_takesText v_tyM rfl rfl rfl (Nat.le_of_ble_eq_true rfl) (Nat.le_of_ble_eq_true rfl) (Nat.le_of_ble_eq_true rfl) (fun d' => c_X12_takesText L xs n d' a (Int32.ofInt 1) S R) ?_
      rintro _ _ _ ⟨_, rfl, rfl, rfl, rfl⟩
      refine u_st rfl (fun _ => rfl) ?_
      refine u_st rfl (fun _ => rfl) ?_
      show u_P L xs n d m_X12_rules 30 [(2, .int (f_X12_takesText a (Int32.ofInt 1) S)), (0, .ref 100), (1, .int a)] [.int (f_X12_takesText a (Int32.ofInt 1) S)] (g_X12_takesText a (Int32.ofInt 1) S) R _
      refine u_if_lt rfl (fun h3 => ?_) (fun h3 => ?_)
      · show u_P L xs n d m_X12_rules 38 [(2, .int (f_X12_takesText a (Int32.ofInt 1) S)), (0, .ref 100), (1, .int a)] [] (g_X12_takesText a (Int32.ofInt 1) S) R _
        refine u_st rfl (fun _ => rfl) ?_
        show u_P L xs n d m_X12_rules 39 [(2, .int (f_X12_takesText a (Int32.ofInt 1) S)), (0, .ref 100), (1, .int a)] [.int (f_X12_takesText a (Int32.ofInt 1) S)] (g_X12_takesText a (Int32.ofInt 1) S) R _
        exact u_ret rfl rfl ⟨_, rfl, rfl, by rw [f_X12_rules, if_neg h1, if_pos h2, if_pos h3], by rw [g_X12_rules, if_neg h1, if_pos h2, if_pos h3]⟩
      · show u_P L xs n d m_X12_rules 33 [(2, .int (f_X12_takesText a (Int32.ofInt 1) S)), (0, .ref 100), (1, .int a)] [] (g_X12_takesText a (Int32.ofInt 1) S) R _
        refine u_st rfl (fun _ => rfl) ?_
        refine u_st rfl (fun _ => rfl) ?_
        show u_P L xs n d m_X12_rules 35 [(2, .int (f_X12_takesText a (Int32.ofInt 1) S)), (0, .ref 100), (1, .int a)] [.int (f_X12_takesText a (Int32.ofInt 1) S), .ref 100] (g_X12_takesText a (Int32.ofInt 1) S) R _
        refine u_put rfl v_tyM rfl ?_
        refine u_st rfl (fun _ => rfl) ?_
        show u_P L xs n d m_X12_rules 39 [(2, .int (f_X12_takesText a (Int32.ofInt 1) S)), (0, .ref 100), (1, .int a)] [.int (f_X12_takesText a (Int32.ofInt 1) S)] (z_s (g_X12_takesText a (Int32.ofInt 1) S) 99 17 (f_X12_takesText a (Int32.ofInt 1) S)) R _
        exact u_ret rfl rfl ⟨_, rfl, rfl, by rw [f_X12_rules, if_neg h1, if_pos h2, if_neg h3], by rw [g_X12_rules, if_neg h1, if_pos h2, if_neg h3]⟩
    · show u_P L xs n d m_X12_rules 20 [(0, .ref 100), (1, .int a)] [] S R _
      refine u_st rfl (fun _ => rfl) ?_
      show u_P L xs n d m_X12_rules 21 [(0, .ref 100), (1, .int a)] [.int (Int32.ofInt (-1))] S R _
      exact u_ret rfl rfl ⟨_, rfl, rfl, by rw [f_X12_rules, if_neg h1, if_neg h2], by rw [g_X12_rules, if_neg h1, if_neg h2]⟩
noncomputable def D_X12_repeats_38  (H38 : Int32 → Int32 → Int32 → Int32 → v_Sf → Prop) (K : v_Sf → Prop) (x1 : Int32) (x2 : Int32) (x4 : Int32) (x5 : Int32) (S : v_Sf) : Prop := (((x4 * x2) ≤ x5 → K (z_s S 99 64 (x1 + (x4 * x2)))) ∧ (¬ ((x4 * x2) ≤ x5) → (¬ x4 = 0 → (0 ≤ (x1 + (x5 - x5 / x4 * x4)).toInt → (x1 + (x5 - x5 / x4 * x4)).toInt < 48 → (0 ≤ (x1 + x5).toInt → (x1 + x5).toInt < 48 → H38 x1 x2 x4 (x5 + (Int32.ofInt 1)) (z_s S 133 ((x1 + x5).toInt.toNat) (S 133 ((x1 + (x5 - x5 / x4 * x4)).toInt.toNat))))))))
noncomputable def D_X12_repeats (a : Int32) (b : Int32) (i : Int32) (H38 : Int32 → Int32 → Int32 → Int32 → v_Sf → Prop) (K : v_Sf → Prop) (S : v_Sf) : Prop := (((a + (((S 99 64) - a) * b)) ≤ (Int32.ofInt 48) → (((¬ (f_X12_isGood S) = 0) → H38 a b ((S 99 64) - a) ((S 99 64) - a) S) ∧ (¬ (¬ (f_X12_isGood S) = 0) → K S))) ∧ (¬ ((a + (((S 99 64) - a) * b)) ≤ (Int32.ofInt 48)) → (((¬ (f_X12_isGood (g_X12_wrongs (Int32.ofInt 6) i S)) = 0) → H38 a b ((S 99 64) - a) ((S 99 64) - a) (g_X12_wrongs (Int32.ofInt 6) i S)) ∧ (¬ (¬ (f_X12_isGood (g_X12_wrongs (Int32.ofInt 6) i S)) = 0) → K (g_X12_wrongs (Int32.ofInt 6) i S)))))
set_option maxRecDepth 4000 in
theorem hd_X12_repeats (L : Nat) (xs : Nat → Int32) {R : v_Rf} (a : Int32) (b : Int32) (i : Int32) (H38 : Int32 → Int32 → Int32 → Int32 → v_Sf → Prop) (K : v_Sf → Prop) (k38 : ∀ (x1 : Int32) (x2 : Int32) (x4 : Int32) (x5 : Int32) (S : v_Sf), H38 x1 x2 x4 x5 S → D_X12_repeats_38 H38 K x1 x2 x4 x5 S) : ∀ n, (∀ (d : Nat) (j3 : Int32) (x1 : Int32) (x2 : Int32) (x4 : Int32) (x5 : Int32) (S : v_Sf), H38 x1 x2 x4 x5 S → u_P L xs n d m_X12_repeats 38 [(0, .ref 100), (1, .int x1), (2, .int x2), (3, .int j3), (4, .int x4), (5, .int x5)] [] S R (z_V R K)) := by
  intro n
  induction n using Nat.strongRecOn with
  | ind n ih =>
    intro d j3 x1 x2 x4 x5 S hD
    have hD := k38 x1 x2 x4 x5 S hD
    unfold D_X12_repeats_38 at hD
    show u_P L xs n d m_X12_repeats 38 [(0, .ref 100), (1, .int x1), (2, .int x2), (3, .int j3), (4, .int x4), (5, .int x5)] [] S R _
    refine u_st1 rfl (fun _ => rfl) (fun m hm => ?_)
    refine u_st rfl (fun _ => rfl) ?_
    refine u_st rfl (fun _ => rfl) ?_
    refine u_st rfl (fun _ => rfl) ?_
    show u_P L xs m d m_X12_repeats 44 [(0, .ref 100), (1, .int x1), (2, .int x2), (3, .int j3), (4, .int x4), (5, .int x5)] [.int (x4 * x2), .int x5] S R _
    refine u_ic_ge rfl (fun h1 => ?_) (fun h1 => ?_)
    · have hD := hD.1 h1
      show u_P L xs m d m_X12_repeats 74 [(0, .ref 100), (1, .int x1), (2, .int x2), (3, .int j3), (4, .int x4), (5, .int x5)] [] S R _
      refine u_st rfl (fun _ => rfl) ?_
      refine u_st rfl (fun _ => rfl) ?_
      refine u_st rfl (fun _ => rfl) ?_
      refine u_st rfl (fun _ => rfl) ?_
      refine u_st rfl (fun _ => rfl) ?_
      refine u_st rfl (fun _ => rfl) ?_
      show u_P L xs m d m_X12_repeats 81 [(0, .ref 100), (1, .int x1), (2, .int x2), (3, .int j3), (4, .int x4), (5, .int x5)] [.int (x1 + (x4 * x2)), .ref 100] S R _
      refine u_put rfl v_tyM rfl ?_
      show u_P L xs m d m_X12_repeats 84 [(0, .ref 100), (1, .int x1), (2, .int x2), (3, .int j3), (4, .int x4), (5, .int x5)] [] (z_s S 99 64 (x1 + (x4 * x2))) R _
      exact u_ret rfl rfl ⟨rfl, rfl, hD⟩
    · have hD := hD.2 h1
      show u_P L xs m d m_X12_repeats 47 [(0, .ref 100), (1, .int x1), (2, .int x2), (3, .int j3), (4, .int x4), (5, .int x5)] [] S R _
      refine u_st rfl (fun _ => rfl) ?_
      show u_P L xs m d m_X12_repeats 48 [(0, .ref 100), (1, .int x1), (2, .int x2), (3, .int j3), (4, .int x4), (5, .int x5)] [.ref 100] S R _
      refine u_getr rfl v_tyM rfl ?_
      refine u_st rfl (fun _ => rfl) ?_
      refine u_st rfl (fun _ => rfl) ?_
      refine u_st rfl (fun _ => rfl) ?_
      refine u_st rfl (fun _ => rfl) ?_
      show u_P L xs m d m_X12_repeats 56 [(0, .ref 100), (1, .int x1), (2, .int x2), (3, .int j3), (4, .int x4), (5, .int x5)] [.ref 100, .int (x1 + x5), .ref 134] S R _
      refine u_getr rfl v_tyM rfl ?_
      refine u_st rfl (fun _ => rfl) ?_
      refine u_st rfl (fun _ => rfl) ?_
      refine u_st rfl (fun _ => rfl) ?_
      show u_P L xs m d m_X12_repeats 64 [(0, .ref 100), (1, .int x1), (2, .int x2), (3, .int j3), (4, .int x4), (5, .int x5)] [.int x4, .int x5, .int x1, .ref 134, .int (x1 + x5), .ref 134] S R _
      refine u_irem rfl (fun b2 => ?_)
      have hD := hD b2
      show u_P L xs m d m_X12_repeats 65 [(0, .ref 100), (1, .int x1), (2, .int x2), (3, .int j3), (4, .int x4), (5, .int x5)] [.int (x5 - x5 / x4 * x4), .int x1, .ref 134, .int (x1 + x5), .ref 134] S R _
      refine u_st rfl (fun _ => rfl) ?_
      show u_P L xs m d m_X12_repeats 66 [(0, .ref 100), (1, .int x1), (2, .int x2), (3, .int j3), (4, .int x4), (5, .int x5)] [.int (x1 + (x5 - x5 / x4 * x4)), .ref 134, .int (x1 + x5), .ref 134] S R _
      refine u_ialdE (v := S 133 ((x1 + (x5 - x5 / x4 * x4)).toInt.toNat)) rfl rfl rfl (fun b31 b32 => ?_)
      have hD := hD b31 b32
      show u_P L xs m d m_X12_repeats 67 [(0, .ref 100), (1, .int x1), (2, .int x2), (3, .int j3), (4, .int x4), (5, .int x5)] [.int (S 133 ((x1 + (x5 - x5 / x4 * x4)).toInt.toNat)), .int (x1 + x5), .ref 134] S R _
      refine u_iast rfl rfl (fun b41 b42 => ?_)
      have hD := hD b41 b42
      show u_P L xs m d m_X12_repeats 68 [(0, .ref 100), (1, .int x1), (2, .int x2), (3, .int j3), (4, .int x4), (5, .int x5)] [] (z_s S 133 ((x1 + x5).toInt.toNat) (S 133 ((x1 + (x5 - x5 / x4 * x4)).toInt.toNat))) R _
      refine u_st rfl (fun _ => rfl) ?_
      refine u_st rfl (fun _ => rfl) ?_
      refine u_lc (b := [(0, .ref 100), (1, .int x1), (2, .int x2), (3, .int j3), (4, .int x4), (5, .int (x5 + (Int32.ofInt 1)))]) (show ([5, 0, 1, 2, 3, 4] : List Nat).Nodup by decide) (show ([0, 1, 2, 3, 4, 5] : List Nat).Nodup by decide) (fun i => match i with | 0 => rfl | 1 => rfl | 2 => rfl | 3 => rfl | 4 => rfl | 5 => rfl | _ + 6 => rfl) ?_
      exact (ih m hm) d j3 x1 x2 x4 (x5 + (Int32.ofInt 1)) (z_s S 133 ((x1 + x5).toInt.toNat) (S 133 ((x1 + (x5 - x5 / x4 * x4)).toInt.toNat))) hD
set_option maxRecDepth 4000 in
theorem w_X12_repeats (L : Nat) (xs : Nat → Int32) {R : v_Rf} (a : Int32) (b : Int32) (i : Int32) (H38 : Int32 → Int32 → Int32 → Int32 → v_Sf → Prop) (K : v_Sf → Prop) (k38 : ∀ (x1 : Int32) (x2 : Int32) (x4 : Int32) (x5 : Int32) (S : v_Sf), H38 x1 x2 x4 x5 S → D_X12_repeats_38 H38 K x1 x2 x4 x5 S) (n d : Nat) (S : v_Sf) (hD : D_X12_repeats a b i H38 K S) : u_P L xs n d m_X12_repeats 0 (lv_args 0 [.ref 100, .int a, .int b, .int i]) [] S R (z_V R K) := by
  unfold D_X12_repeats at hD
  show u_P L xs n d m_X12_repeats 0 [(0, .ref 100), (1, .int a), (2, .int b), (3, .int i)] [] S R _
  refine u_st rfl (fun _ => rfl) ?_
  show u_P L xs n d m_X12_repeats 1 [(0, .ref 100), (1, .int a), (2, .int b), (3, .int i)] [.ref 100] S R _
  refine u_getE (v := S 99 64) rfl v_tyM rfl rfl ?_
  refine u_st rfl (fun _ => rfl) ?_
  refine u_st rfl (fun _ => rfl) ?_
  refine u_st rfl (fun _ => rfl) ?_
  refine u_st rfl (fun _ => rfl) ?_
  refine u_st rfl (fun _ => rfl) ?_
  refine u_st rfl (fun _ => rfl) ?_
  refine u_st rfl (fun _ => rfl) ?_
  refine u_st rfl (fun _ => rfl) ?_
  refine u_st rfl (fun _ => rfl) ?_
  show u_P L xs n d m_X12_repeats 16 [(4, .int ((S 99 64) - a)), (0, .ref 100), (1, .int a), (2, .int b), (3, .int i)] [.int (Int32.ofInt 48), .int (a + (((S 99 64) - a) * b))] S R _
  refine u_ic_le rfl (fun h1 => ?_) (fun h1 => ?_)
  · have hD := hD.1 h1
    show u_P L xs n d m_X12_repeats 26 [(4, .int ((S 99 64) - a)), (0, .ref 100), (1, .int a), (2, .int b), (3, .int i)] [] S R _
    refine u_st rfl (fun _ => rfl) ?_
    show u_P L xs n d m_X12_repeats 27 [(4, .int ((S 99 64) - a)), (0, .ref 100), (1, .int a), (2, .int b), (3, .int i)] [.ref 100] S R _
    refine u_cv (rest := []) rfl (by decide) mt_X12_isGood v_tyM rfl rfl rfl (Nat.le_of_ble_eq_true rfl) (Nat.le_of_ble_eq_true rfl) (Nat.le_of_ble_eq_true rfl) (fun d' => c_X12_isGood L xs n d' S R) ?_
    rintro _ _ _ ⟨_, rfl, rfl, rfl, rfl⟩
    show u_P L xs n d m_X12_repeats 30 [(4, .int ((S 99 64) - a)), (0, .ref 100), (1, .int a), (2, .int b), (3, .int i)] [.int (f_X12_isGood S)] S R _
    refine u_if_ne rfl (fun h2 => ?_) (fun h2 => ?_)
    · have hD := hD.1 h2
      show u_P L xs n d m_X12_repeats 34 [(4, .int ((S 99 64) - a)), (0, .ref 100), (1, .int a), (2, .int b), (3, .int i)] [] S R _
      refine u_st rfl (fun _ => rfl) ?_
      refine u_st rfl (fun _ => rfl) ?_
      refine u_lc (b := [(0, .ref 100), (1, .int a), (2, .int b), (3, .int i), (4, .int ((S 99 64) - a)), (5, .int ((S 99 64) - a))]) (show ([5, 4, 0, 1, 2, 3] : List Nat).Nodup by decide) (show ([0, 1, 2, 3, 4, 5] : List Nat).Nodup by decide) (fun i => match i with | 0 => rfl | 1 => rfl | 2 => rfl | 3 => rfl | 4 => rfl | 5 => rfl | _ + 6 => rfl) ?_
      exact (hd_X12_repeats L xs a b i H38 K k38 n) d i a b ((S 99 64) - a) ((S 99 64) - a) S hD
    · have hD := hD.2 h2
      show u_P L xs n d m_X12_repeats 33 [(4, .int ((S 99 64) - a)), (0, .ref 100), (1, .int a), (2, .int b), (3, .int i)] [] S R _
      exact u_ret rfl rfl ⟨rfl, rfl, hD⟩
  · have hD := hD.2 h1
    show u_P L xs n d m_X12_repeats 19 [(4, .int ((S 99 64) - a)), (0, .ref 100), (1, .int a), (2, .int b), (3, .int i)] [] S R _
    refine u_st rfl (fun _ => rfl) ?_
    refine u_st rfl (fun _ => rfl) ?_
    refine u_st rfl (fun _ => rfl) ?_
    show u_P L xs n d m_X12_repeats 23 [(4, .int ((S 99 64) - a)), (0, .ref 100), (1, .int a), (2, .int b), (3, .int i)] [.int i, .int (Int32.ofInt 6), .ref 100] S R _
    refine u_cv (rest := []) rfl (by decide) mt_X12_wrongs v_tyM rfl rfl rfl (Nat.le_of_ble_eq_true rfl) (Nat.le_of_ble_eq_true rfl) (Nat.le_of_ble_eq_true rfl) (fun d' => c_X12_wrongs L xs n d' (Int32.ofInt 6) i S R) ?_
    rintro _ _ _ ⟨rfl, rfl, rfl⟩
    refine u_st rfl (fun _ => rfl) ?_
    show u_P L xs n d m_X12_repeats 27 [(4, .int ((S 99 64) - a)), (0, .ref 100), (1, .int a), (2, .int b), (3, .int i)] [.ref 100] (g_X12_wrongs (Int32.ofInt 6) i S) R _
    refine u_cv (rest := []) rfl (by decide) mt_X12_isGood v_tyM rfl rfl rfl (Nat.le_of_ble_eq_true rfl) (Nat.le_of_ble_eq_true rfl) (Nat.le_of_ble_eq_true rfl) (fun d' => c_X12_isGood L xs n d' (g_X12_wrongs (Int32.ofInt 6) i S) R) ?_
    rintro _ _ _ ⟨_, rfl, rfl, rfl, rfl⟩
    show u_P L xs n d m_X12_repeats 30 [(4, .int ((S 99 64) - a)), (0, .ref 100), (1, .int a), (2, .int b), (3, .int i)] [.int (f_X12_isGood (g_X12_wrongs (Int32.ofInt 6) i S))] (g_X12_wrongs (Int32.ofInt 6) i S) R _
    refine u_if_ne rfl (fun h3 => ?_) (fun h3 => ?_)
    · have hD := hD.1 h3
      show u_P L xs n d m_X12_repeats 34 [(4, .int ((S 99 64) - a)), (0, .ref 100), (1, .int a), (2, .int b), (3, .int i)] [] (g_X12_wrongs (Int32.ofInt 6) i S) R _
      refine u_st rfl (fun _ => rfl) ?_
      refine u_st rfl (fun _ => rfl) ?_
      refine u_lc (b := [(0, .ref 100), (1, .int a), (2, .int b), (3, .int i), (4, .int ((S 99 64) - a)), (5, .int ((S 99 64) - a))]) (show ([5, 4, 0, 1, 2, 3] : List Nat).Nodup by decide) (show ([0, 1, 2, 3, 4, 5] : List Nat).Nodup by decide) (fun i => match i with | 0 => rfl | 1 => rfl | 2 => rfl | 3 => rfl | 4 => rfl | 5 => rfl | _ + 6 => rfl) ?_
      exact (hd_X12_repeats L xs a b i H38 K k38 n) d i a b ((S 99 64) - a) ((S 99 64) - a) (g_X12_wrongs (Int32.ofInt 6) i S) hD
    · have hD := hD.2 h3
      show u_P L xs n d m_X12_repeats 33 [(4, .int ((S 99 64) - a)), (0, .ref 100), (1, .int a), (2, .int b), (3, .int i)] [] (g_X12_wrongs (Int32.ofInt 6) i S) R _
      exact u_ret rfl rfl ⟨rfl, rfl, hD⟩
noncomputable def s_X12_repeats_38 (x1 : Int32) (x2 : Int32) (x4 : Int32) (x5 : Int32) (S : v_Sf) : (Int32 × v_Sf) ⊕ (v_Sf) := (if (x4 * x2) ≤ x5 then (Sum.inr (z_s S 99 64 (x1 + (x4 * x2)))) else (Sum.inl ((x5 + (Int32.ofInt 1)), (z_s S 133 ((x1 + x5).toInt.toNat) (S 133 ((x1 + (x5 - x5 / x4 * x4)).toInt.toNat))))))
noncomputable def F_X12_repeats (a : Int32) (b : Int32) (i : Int32) (S : v_Sf) : v_Sf := (if (a + (((S 99 64) - a) * b)) ≤ (Int32.ofInt 48) then (if ¬ (f_X12_isGood S) = 0 then z_lim (fun p => s_X12_repeats_38 a b ((S 99 64) - a) p.1 p.2) S (((S 99 64) - a), S) else S) else (if ¬ (f_X12_isGood (g_X12_wrongs (Int32.ofInt 6) i S)) = 0 then z_lim (fun p => s_X12_repeats_38 a b ((S 99 64) - a) p.1 p.2) S (((S 99 64) - a), (g_X12_wrongs (Int32.ofInt 6) i S)) else g_X12_wrongs (Int32.ofInt 6) i S))
noncomputable def g_X12_repeats (a : Int32) (b : Int32) (i : Int32) (S : v_Sf) : v_Sf := F_X12_repeats a b i S
theorem c_X12_repeats (L : Nat) (xs : Nat → Int32) (n d : Nat) (a : Int32) (b : Int32) (i : Int32) (S : v_Sf) (R : v_Rf) : u_P L xs n d m_X12_repeats 0 (lv_args 0 [.ref 100, .int a, .int b, .int i]) [] S R (z_V R (fun S1 => g_X12_repeats a b i S = S1)) := by
  refine w_X12_repeats L xs a b i (fun y1 y2 y4 y5 T => a = y1 ∧ b = y2 ∧ (S 99 64) - a = y4 ∧ (∀ N out, z_itr (fun p => s_X12_repeats_38 a b ((S 99 64) - a) p.1 p.2) N (y5, T) = some out → F_X12_repeats a b i S = out)) (fun S1 => g_X12_repeats a b i S = S1) ?_ n d S ?_
  · rintro _ _ _ x5 S1 ⟨rfl, rfl, rfl, e⟩
    unfold D_X12_repeats_38
    refine ⟨fun q1 => ?_, fun q1 => ?_⟩
    · have e := (e 1 _ (z_itr_r (by show s_X12_repeats_38 a b ((S 99 64) - a) x5 S1 = _; rw [s_X12_repeats_38, if_pos q1]))).symm
      exact e.symm
    · intro _
      intro _ _
      intro _ _
      exact ⟨rfl, rfl, rfl, fun N out h => e (N + 1) out ((z_itr_l (by show s_X12_repeats_38 a b ((S 99 64) - a) x5 S1 = _; rw [s_X12_repeats_38, if_neg q1])).trans h)⟩
  · unfold D_X12_repeats
    refine ⟨fun q2 => ?_, fun q2 => ?_⟩
    · refine ⟨fun q3 => ?_, fun q3 => ?_⟩
      · have e : z_lim (fun p => s_X12_repeats_38 a b ((S 99 64) - a) p.1 p.2) S (((S 99 64) - a), S) = F_X12_repeats a b i S := by rw [F_X12_repeats, if_pos q2, if_pos q3]
        exact ⟨rfl, rfl, rfl, fun N out h => e.symm.trans (z_lim_eq h)⟩
      · have e : S = F_X12_repeats a b i S := by rw [F_X12_repeats, if_pos q2, if_neg q3]
        exact e.symm
    · refine ⟨fun q4 => ?_, fun q4 => ?_⟩
      · have e : z_lim (fun p => s_X12_repeats_38 a b ((S 99 64) - a) p.1 p.2) S (((S 99 64) - a), (g_X12_wrongs (Int32.ofInt 6) i S)) = F_X12_repeats a b i S := by rw [F_X12_repeats, if_neg q2, if_pos q4]
        exact ⟨rfl, rfl, rfl, fun N out h => e.symm.trans (z_lim_eq h)⟩
      · have e : g_X12_wrongs (Int32.ofInt 6) i S = F_X12_repeats a b i S := by rw [F_X12_repeats, if_neg q2, if_neg q4]
        exact e.symm
end PrtS42t
section PrtS42u
noncomputable def D_X12_monthTold_244  (H244 : Int32 → Int32 → v_Sf → Prop) (K : v_Sf → Prop) (x2 : Int32) (x3 : Int32) (S : v_Sf) : Prop := ((x2 ≤ x3 → K (z_s (z_s (z_s S 99 64 ((S 99 64) + x2)) 99 66 (Int32.ofInt 1)) 99 3 ((S 99 3) + (Int32.ofInt 1)))) ∧ (¬ (x2 ≤ x3) → (((¬ (f_X12_here S) = (Int32.ofInt 46)) → (0 ≤ ((S 99 64) + x3).toInt → ((S 99 64) + x3).toInt < 48 → H244 x2 (x3 + (Int32.ofInt 1)) (z_s S 133 (((S 99 64) + x3).toInt.toNat) ((f_X12_here S) - (Int32.ofInt 65))))) ∧ (¬ (¬ (f_X12_here S) = (Int32.ofInt 46)) → (0 ≤ ((S 99 64) + x3).toInt → ((S 99 64) + x3).toInt < 48 → H244 x2 (x3 + (Int32.ofInt 1)) (z_s S 133 (((S 99 64) + x3).toInt.toNat) (Int32.ofInt (-1))))))))
noncomputable def D_X12_monthTold  (H244 : Int32 → Int32 → v_Sf → Prop) (K : v_Sf → Prop) (S : v_Sf) : Prop := (((¬ (f_X12_here S) = (Int32.ofInt 41)) → (((¬ (f_X12_here (g_X12_timesTold S)) = (Int32.ofInt 40)) → (((f_X12_here (g_X12_timesTold S)) = (Int32.ofInt 46) → (((((g_X12_timesTold S) 99 64) + (f_X12_timesTold S)) ≤ (Int32.ofInt 48) → (((¬ (f_X12_isGood (g_X12_timesTold S)) = 0) → H244 (f_X12_timesTold S) (Int32.ofInt 0) (g_X12_timesTold S)) ∧ (¬ (¬ (f_X12_isGood (g_X12_timesTold S)) = 0) → K (g_X12_timesTold S)))) ∧ (¬ ((((g_X12_timesTold S) 99 64) + (f_X12_timesTold S)) ≤ (Int32.ofInt 48)) → (((¬ (f_X12_isGood (g_X12_wrongs (Int32.ofInt 6) (S 99 3) (g_X12_timesTold S))) = 0) → H244 (f_X12_timesTold S) (Int32.ofInt 0) (g_X12_wrongs (Int32.ofInt 6) (S 99 3) (g_X12_timesTold S))) ∧ (¬ (¬ (f_X12_isGood (g_X12_wrongs (Int32.ofInt 6) (S 99 3) (g_X12_timesTold S))) = 0) → K (g_X12_wrongs (Int32.ofInt 6) (S 99 3) (g_X12_timesTold S))))))) ∧ (¬ ((f_X12_here (g_X12_timesTold S)) = (Int32.ofInt 46)) → (((¬ (z_in ((f_X12_here (g_X12_timesTold S))) 65 74) = 0) → (((((g_X12_timesTold S) 99 64) + (f_X12_timesTold S)) ≤ (Int32.ofInt 48) → (((¬ (f_X12_isGood (g_X12_timesTold S)) = 0) → H244 (f_X12_timesTold S) (Int32.ofInt 0) (g_X12_timesTold S)) ∧ (¬ (¬ (f_X12_isGood (g_X12_timesTold S)) = 0) → K (g_X12_timesTold S)))) ∧ (¬ ((((g_X12_timesTold S) 99 64) + (f_X12_timesTold S)) ≤ (Int32.ofInt 48)) → (((¬ (f_X12_isGood (g_X12_wrongs (Int32.ofInt 6) (S 99 3) (g_X12_timesTold S))) = 0) → H244 (f_X12_timesTold S) (Int32.ofInt 0) (g_X12_wrongs (Int32.ofInt 6) (S 99 3) (g_X12_timesTold S))) ∧ (¬ (¬ (f_X12_isGood (g_X12_wrongs (Int32.ofInt 6) (S 99 3) (g_X12_timesTold S))) = 0) → K (g_X12_wrongs (Int32.ofInt 6) (S 99 3) (g_X12_timesTold S))))))) ∧ (¬ (¬ (z_in ((f_X12_here (g_X12_timesTold S))) 65 74) = 0) → (((¬ (f_X12_isGood (g_X12_wrongs (Int32.ofInt 1) ((g_X12_timesTold S) 99 3) (g_X12_timesTold S))) = 0) → H244 (f_X12_timesTold S) (Int32.ofInt 0) (g_X12_wrongs (Int32.ofInt 1) ((g_X12_timesTold S) 99 3) (g_X12_timesTold S))) ∧ (¬ (¬ (f_X12_isGood (g_X12_wrongs (Int32.ofInt 1) ((g_X12_timesTold S) 99 3) (g_X12_timesTold S))) = 0) → K (g_X12_wrongs (Int32.ofInt 1) ((g_X12_timesTold S) 99 3) (g_X12_timesTold S))))))))) ∧ (¬ (¬ (f_X12_here (g_X12_timesTold S)) = (Int32.ofInt 40)) → (((¬ ((g_X12_timesTold S) 99 65) = (Int32.ofInt 2)) → (((¬ (f_X12_isGood (g_X12_timesTold S)) = 0) → (0 ≤ ((g_X12_timesTold S) 99 65).toInt → ((g_X12_timesTold S) 99 65).toInt < 2 → (0 ≤ ((g_X12_timesTold S) 99 65).toInt → ((g_X12_timesTold S) 99 65).toInt < 2 → (0 ≤ ((g_X12_timesTold S) 99 65).toInt → ((g_X12_timesTold S) 99 65).toInt < 2 → K (z_s (z_s (z_s (z_s (z_s (z_s (g_X12_timesTold S) 134 (((g_X12_timesTold S) 99 65).toInt.toNat) ((g_X12_timesTold S) 99 64)) 135 (((g_X12_timesTold S) 99 65).toInt.toNat) (f_X12_timesTold S)) 136 (((g_X12_timesTold S) 99 65).toInt.toNat) (S 99 3)) 99 65 (((g_X12_timesTold S) 99 65) + (Int32.ofInt 1))) 99 66 (Int32.ofInt 0)) 99 3 (((g_X12_timesTold S) 99 3) + (Int32.ofInt 1))))))) ∧ (¬ (¬ (f_X12_isGood (g_X12_timesTold S)) = 0) → K (g_X12_timesTold S)))) ∧ (¬ (¬ ((g_X12_timesTold S) 99 65) = (Int32.ofInt 2)) → (((¬ (f_X12_isGood (g_X12_wrongs (Int32.ofInt 5) ((g_X12_timesTold S) 99 3) (g_X12_timesTold S))) = 0) → (0 ≤ ((g_X12_wrongs (Int32.ofInt 5) ((g_X12_timesTold S) 99 3) (g_X12_timesTold S)) 99 65).toInt → ((g_X12_wrongs (Int32.ofInt 5) ((g_X12_timesTold S) 99 3) (g_X12_timesTold S)) 99 65).toInt < 2 → (0 ≤ ((g_X12_wrongs (Int32.ofInt 5) ((g_X12_timesTold S) 99 3) (g_X12_timesTold S)) 99 65).toInt → ((g_X12_wrongs (Int32.ofInt 5) ((g_X12_timesTold S) 99 3) (g_X12_timesTold S)) 99 65).toInt < 2 → (0 ≤ ((g_X12_wrongs (Int32.ofInt 5) ((g_X12_timesTold S) 99 3) (g_X12_timesTold S)) 99 65).toInt → ((g_X12_wrongs (Int32.ofInt 5) ((g_X12_timesTold S) 99 3) (g_X12_timesTold S)) 99 65).toInt < 2 → K (z_s (z_s (z_s (z_s (z_s (z_s (g_X12_wrongs (Int32.ofInt 5) ((g_X12_timesTold S) 99 3) (g_X12_timesTold S)) 134 (((g_X12_wrongs (Int32.ofInt 5) ((g_X12_timesTold S) 99 3) (g_X12_timesTold S)) 99 65).toInt.toNat) ((g_X12_wrongs (Int32.ofInt 5) ((g_X12_timesTold S) 99 3) (g_X12_timesTold S)) 99 64)) 135 (((g_X12_wrongs (Int32.ofInt 5) ((g_X12_timesTold S) 99 3) (g_X12_timesTold S)) 99 65).toInt.toNat) (f_X12_timesTold S)) 136 (((g_X12_wrongs (Int32.ofInt 5) ((g_X12_timesTold S) 99 3) (g_X12_timesTold S)) 99 65).toInt.toNat) (S 99 3)) 99 65 (((g_X12_wrongs (Int32.ofInt 5) ((g_X12_timesTold S) 99 3) (g_X12_timesTold S)) 99 65) + (Int32.ofInt 1))) 99 66 (Int32.ofInt 0)) 99 3 (((g_X12_wrongs (Int32.ofInt 5) ((g_X12_timesTold S) 99 3) (g_X12_timesTold S)) 99 3) + (Int32.ofInt 1))))))) ∧ (¬ (¬ (f_X12_isGood (g_X12_wrongs (Int32.ofInt 5) ((g_X12_timesTold S) 99 3) (g_X12_timesTold S))) = 0) → K (g_X12_wrongs (Int32.ofInt 5) ((g_X12_timesTold S) 99 3) (g_X12_timesTold S))))))))) ∧ (¬ (¬ (f_X12_here S) = (Int32.ofInt 41)) → (((S 99 65) ≤ 0 → (((¬ (f_X12_here (g_X12_timesTold S)) = (Int32.ofInt 40)) → (((f_X12_here (g_X12_timesTold S)) = (Int32.ofInt 46) → (((((g_X12_timesTold S) 99 64) + (f_X12_timesTold S)) ≤ (Int32.ofInt 48) → (((¬ (f_X12_isGood (g_X12_timesTold S)) = 0) → H244 (f_X12_timesTold S) (Int32.ofInt 0) (g_X12_timesTold S)) ∧ (¬ (¬ (f_X12_isGood (g_X12_timesTold S)) = 0) → K (g_X12_timesTold S)))) ∧ (¬ ((((g_X12_timesTold S) 99 64) + (f_X12_timesTold S)) ≤ (Int32.ofInt 48)) → (((¬ (f_X12_isGood (g_X12_wrongs (Int32.ofInt 6) (S 99 3) (g_X12_timesTold S))) = 0) → H244 (f_X12_timesTold S) (Int32.ofInt 0) (g_X12_wrongs (Int32.ofInt 6) (S 99 3) (g_X12_timesTold S))) ∧ (¬ (¬ (f_X12_isGood (g_X12_wrongs (Int32.ofInt 6) (S 99 3) (g_X12_timesTold S))) = 0) → K (g_X12_wrongs (Int32.ofInt 6) (S 99 3) (g_X12_timesTold S))))))) ∧ (¬ ((f_X12_here (g_X12_timesTold S)) = (Int32.ofInt 46)) → (((¬ (z_in ((f_X12_here (g_X12_timesTold S))) 65 74) = 0) → (((((g_X12_timesTold S) 99 64) + (f_X12_timesTold S)) ≤ (Int32.ofInt 48) → (((¬ (f_X12_isGood (g_X12_timesTold S)) = 0) → H244 (f_X12_timesTold S) (Int32.ofInt 0) (g_X12_timesTold S)) ∧ (¬ (¬ (f_X12_isGood (g_X12_timesTold S)) = 0) → K (g_X12_timesTold S)))) ∧ (¬ ((((g_X12_timesTold S) 99 64) + (f_X12_timesTold S)) ≤ (Int32.ofInt 48)) → (((¬ (f_X12_isGood (g_X12_wrongs (Int32.ofInt 6) (S 99 3) (g_X12_timesTold S))) = 0) → H244 (f_X12_timesTold S) (Int32.ofInt 0) (g_X12_wrongs (Int32.ofInt 6) (S 99 3) (g_X12_timesTold S))) ∧ (¬ (¬ (f_X12_isGood (g_X12_wrongs (Int32.ofInt 6) (S 99 3) (g_X12_timesTold S))) = 0) → K (g_X12_wrongs (Int32.ofInt 6) (S 99 3) (g_X12_timesTold S))))))) ∧ (¬ (¬ (z_in ((f_X12_here (g_X12_timesTold S))) 65 74) = 0) → (((¬ (f_X12_isGood (g_X12_wrongs (Int32.ofInt 1) ((g_X12_timesTold S) 99 3) (g_X12_timesTold S))) = 0) → H244 (f_X12_timesTold S) (Int32.ofInt 0) (g_X12_wrongs (Int32.ofInt 1) ((g_X12_timesTold S) 99 3) (g_X12_timesTold S))) ∧ (¬ (¬ (f_X12_isGood (g_X12_wrongs (Int32.ofInt 1) ((g_X12_timesTold S) 99 3) (g_X12_timesTold S))) = 0) → K (g_X12_wrongs (Int32.ofInt 1) ((g_X12_timesTold S) 99 3) (g_X12_timesTold S))))))))) ∧ (¬ (¬ (f_X12_here (g_X12_timesTold S)) = (Int32.ofInt 40)) → (((¬ ((g_X12_timesTold S) 99 65) = (Int32.ofInt 2)) → (((¬ (f_X12_isGood (g_X12_timesTold S)) = 0) → (0 ≤ ((g_X12_timesTold S) 99 65).toInt → ((g_X12_timesTold S) 99 65).toInt < 2 → (0 ≤ ((g_X12_timesTold S) 99 65).toInt → ((g_X12_timesTold S) 99 65).toInt < 2 → (0 ≤ ((g_X12_timesTold S) 99 65).toInt → ((g_X12_timesTold S) 99 65).toInt < 2 → K (z_s (z_s (z_s (z_s (z_s (z_s (g_X12_timesTold S) 134 (((g_X12_timesTold S) 99 65).toInt.toNat) ((g_X12_timesTold S) 99 64)) 135 (((g_X12_timesTold S) 99 65).toInt.toNat) (f_X12_timesTold S)) 136 (((g_X12_timesTold S) 99 65).toInt.toNat) (S 99 3)) 99 65 (((g_X12_timesTold S) 99 65) + (Int32.ofInt 1))) 99 66 (Int32.ofInt 0)) 99 3 (((g_X12_timesTold S) 99 3) + (Int32.ofInt 1))))))) ∧ (¬ (¬ (f_X12_isGood (g_X12_timesTold S)) = 0) → K (g_X12_timesTold S)))) ∧ (¬ (¬ ((g_X12_timesTold S) 99 65) = (Int32.ofInt 2)) → (((¬ (f_X12_isGood (g_X12_wrongs (Int32.ofInt 5) ((g_X12_timesTold S) 99 3) (g_X12_timesTold S))) = 0) → (0 ≤ ((g_X12_wrongs (Int32.ofInt 5) ((g_X12_timesTold S) 99 3) (g_X12_timesTold S)) 99 65).toInt → ((g_X12_wrongs (Int32.ofInt 5) ((g_X12_timesTold S) 99 3) (g_X12_timesTold S)) 99 65).toInt < 2 → (0 ≤ ((g_X12_wrongs (Int32.ofInt 5) ((g_X12_timesTold S) 99 3) (g_X12_timesTold S)) 99 65).toInt → ((g_X12_wrongs (Int32.ofInt 5) ((g_X12_timesTold S) 99 3) (g_X12_timesTold S)) 99 65).toInt < 2 → (0 ≤ ((g_X12_wrongs (Int32.ofInt 5) ((g_X12_timesTold S) 99 3) (g_X12_timesTold S)) 99 65).toInt → ((g_X12_wrongs (Int32.ofInt 5) ((g_X12_timesTold S) 99 3) (g_X12_timesTold S)) 99 65).toInt < 2 → K (z_s (z_s (z_s (z_s (z_s (z_s (g_X12_wrongs (Int32.ofInt 5) ((g_X12_timesTold S) 99 3) (g_X12_timesTold S)) 134 (((g_X12_wrongs (Int32.ofInt 5) ((g_X12_timesTold S) 99 3) (g_X12_timesTold S)) 99 65).toInt.toNat) ((g_X12_wrongs (Int32.ofInt 5) ((g_X12_timesTold S) 99 3) (g_X12_timesTold S)) 99 64)) 135 (((g_X12_wrongs (Int32.ofInt 5) ((g_X12_timesTold S) 99 3) (g_X12_timesTold S)) 99 65).toInt.toNat) (f_X12_timesTold S)) 136 (((g_X12_wrongs (Int32.ofInt 5) ((g_X12_timesTold S) 99 3) (g_X12_timesTold S)) 99 65).toInt.toNat) (S 99 3)) 99 65 (((g_X12_wrongs (Int32.ofInt 5) ((g_X12_timesTold S) 99 3) (g_X12_timesTold S)) 99 65) + (Int32.ofInt 1))) 99 66 (Int32.ofInt 0)) 99 3 (((g_X12_wrongs (Int32.ofInt 5) ((g_X12_timesTold S) 99 3) (g_X12_timesTold S)) 99 3) + (Int32.ofInt 1))))))) ∧ (¬ (¬ (f_X12_isGood (g_X12_wrongs (Int32.ofInt 5) ((g_X12_timesTold S) 99 3) (g_X12_timesTold S))) = 0) → K (g_X12_wrongs (Int32.ofInt 5) ((g_X12_timesTold S) 99 3) (g_X12_timesTold S))))))))) ∧ (¬ ((S 99 65) ≤ 0) → (((S 99 66) = 0 → (((¬ (f_X12_here (g_X12_timesTold S)) = (Int32.ofInt 40)) → (((f_X12_here (g_X12_timesTold S)) = (Int32.ofInt 46) → (((((g_X12_timesTold S) 99 64) + (f_X12_timesTold S)) ≤ (Int32.ofInt 48) → (((¬ (f_X12_isGood (g_X12_timesTold S)) = 0) → H244 (f_X12_timesTold S) (Int32.ofInt 0) (g_X12_timesTold S)) ∧ (¬ (¬ (f_X12_isGood (g_X12_timesTold S)) = 0) → K (g_X12_timesTold S)))) ∧ (¬ ((((g_X12_timesTold S) 99 64) + (f_X12_timesTold S)) ≤ (Int32.ofInt 48)) → (((¬ (f_X12_isGood (g_X12_wrongs (Int32.ofInt 6) (S 99 3) (g_X12_timesTold S))) = 0) → H244 (f_X12_timesTold S) (Int32.ofInt 0) (g_X12_wrongs (Int32.ofInt 6) (S 99 3) (g_X12_timesTold S))) ∧ (¬ (¬ (f_X12_isGood (g_X12_wrongs (Int32.ofInt 6) (S 99 3) (g_X12_timesTold S))) = 0) → K (g_X12_wrongs (Int32.ofInt 6) (S 99 3) (g_X12_timesTold S))))))) ∧ (¬ ((f_X12_here (g_X12_timesTold S)) = (Int32.ofInt 46)) → (((¬ (z_in ((f_X12_here (g_X12_timesTold S))) 65 74) = 0) → (((((g_X12_timesTold S) 99 64) + (f_X12_timesTold S)) ≤ (Int32.ofInt 48) → (((¬ (f_X12_isGood (g_X12_timesTold S)) = 0) → H244 (f_X12_timesTold S) (Int32.ofInt 0) (g_X12_timesTold S)) ∧ (¬ (¬ (f_X12_isGood (g_X12_timesTold S)) = 0) → K (g_X12_timesTold S)))) ∧ (¬ ((((g_X12_timesTold S) 99 64) + (f_X12_timesTold S)) ≤ (Int32.ofInt 48)) → (((¬ (f_X12_isGood (g_X12_wrongs (Int32.ofInt 6) (S 99 3) (g_X12_timesTold S))) = 0) → H244 (f_X12_timesTold S) (Int32.ofInt 0) (g_X12_wrongs (Int32.ofInt 6) (S 99 3) (g_X12_timesTold S))) ∧ (¬ (¬ (f_X12_isGood (g_X12_wrongs (Int32.ofInt 6) (S 99 3) (g_X12_timesTold S))) = 0) → K (g_X12_wrongs (Int32.ofInt 6) (S 99 3) (g_X12_timesTold S))))))) ∧ (¬ (¬ (z_in ((f_X12_here (g_X12_timesTold S))) 65 74) = 0) → (((¬ (f_X12_isGood (g_X12_wrongs (Int32.ofInt 1) ((g_X12_timesTold S) 99 3) (g_X12_timesTold S))) = 0) → H244 (f_X12_timesTold S) (Int32.ofInt 0) (g_X12_wrongs (Int32.ofInt 1) ((g_X12_timesTold S) 99 3) (g_X12_timesTold S))) ∧ (¬ (¬ (f_X12_isGood (g_X12_wrongs (Int32.ofInt 1) ((g_X12_timesTold S) 99 3) (g_X12_timesTold S))) = 0) → K (g_X12_wrongs (Int32.ofInt 1) ((g_X12_timesTold S) 99 3) (g_X12_timesTold S))))))))) ∧ (¬ (¬ (f_X12_here (g_X12_timesTold S)) = (Int32.ofInt 40)) → (((¬ ((g_X12_timesTold S) 99 65) = (Int32.ofInt 2)) → (((¬ (f_X12_isGood (g_X12_timesTold S)) = 0) → (0 ≤ ((g_X12_timesTold S) 99 65).toInt → ((g_X12_timesTold S) 99 65).toInt < 2 → (0 ≤ ((g_X12_timesTold S) 99 65).toInt → ((g_X12_timesTold S) 99 65).toInt < 2 → (0 ≤ ((g_X12_timesTold S) 99 65).toInt → ((g_X12_timesTold S) 99 65).toInt < 2 → K (z_s (z_s (z_s (z_s (z_s (z_s (g_X12_timesTold S) 134 (((g_X12_timesTold S) 99 65).toInt.toNat) ((g_X12_timesTold S) 99 64)) 135 (((g_X12_timesTold S) 99 65).toInt.toNat) (f_X12_timesTold S)) 136 (((g_X12_timesTold S) 99 65).toInt.toNat) (S 99 3)) 99 65 (((g_X12_timesTold S) 99 65) + (Int32.ofInt 1))) 99 66 (Int32.ofInt 0)) 99 3 (((g_X12_timesTold S) 99 3) + (Int32.ofInt 1))))))) ∧ (¬ (¬ (f_X12_isGood (g_X12_timesTold S)) = 0) → K (g_X12_timesTold S)))) ∧ (¬ (¬ ((g_X12_timesTold S) 99 65) = (Int32.ofInt 2)) → (((¬ (f_X12_isGood (g_X12_wrongs (Int32.ofInt 5) ((g_X12_timesTold S) 99 3) (g_X12_timesTold S))) = 0) → (0 ≤ ((g_X12_wrongs (Int32.ofInt 5) ((g_X12_timesTold S) 99 3) (g_X12_timesTold S)) 99 65).toInt → ((g_X12_wrongs (Int32.ofInt 5) ((g_X12_timesTold S) 99 3) (g_X12_timesTold S)) 99 65).toInt < 2 → (0 ≤ ((g_X12_wrongs (Int32.ofInt 5) ((g_X12_timesTold S) 99 3) (g_X12_timesTold S)) 99 65).toInt → ((g_X12_wrongs (Int32.ofInt 5) ((g_X12_timesTold S) 99 3) (g_X12_timesTold S)) 99 65).toInt < 2 → (0 ≤ ((g_X12_wrongs (Int32.ofInt 5) ((g_X12_timesTold S) 99 3) (g_X12_timesTold S)) 99 65).toInt → ((g_X12_wrongs (Int32.ofInt 5) ((g_X12_timesTold S) 99 3) (g_X12_timesTold S)) 99 65).toInt < 2 → K (z_s (z_s (z_s (z_s (z_s (z_s (g_X12_wrongs (Int32.ofInt 5) ((g_X12_timesTold S) 99 3) (g_X12_timesTold S)) 134 (((g_X12_wrongs (Int32.ofInt 5) ((g_X12_timesTold S) 99 3) (g_X12_timesTold S)) 99 65).toInt.toNat) ((g_X12_wrongs (Int32.ofInt 5) ((g_X12_timesTold S) 99 3) (g_X12_timesTold S)) 99 64)) 135 (((g_X12_wrongs (Int32.ofInt 5) ((g_X12_timesTold S) 99 3) (g_X12_timesTold S)) 99 65).toInt.toNat) (f_X12_timesTold S)) 136 (((g_X12_wrongs (Int32.ofInt 5) ((g_X12_timesTold S) 99 3) (g_X12_timesTold S)) 99 65).toInt.toNat) (S 99 3)) 99 65 (((g_X12_wrongs (Int32.ofInt 5) ((g_X12_timesTold S) 99 3) (g_X12_timesTold S)) 99 65) + (Int32.ofInt 1))) 99 66 (Int32.ofInt 0)) 99 3 (((g_X12_wrongs (Int32.ofInt 5) ((g_X12_timesTold S) 99 3) (g_X12_timesTold S)) 99 3) + (Int32.ofInt 1))))))) ∧ (¬ (¬ (f_X12_isGood (g_X12_wrongs (Int32.ofInt 5) ((g_X12_timesTold S) 99 3) (g_X12_timesTold S))) = 0) → K (g_X12_wrongs (Int32.ofInt 5) ((g_X12_timesTold S) 99 3) (g_X12_timesTold S))))))))) ∧ (¬ ((S 99 66) = 0) → (0 ≤ ((S 99 65) - (Int32.ofInt 1)).toInt → ((S 99 65) - (Int32.ofInt 1)).toInt < 2 → (0 ≤ ((S 99 65) - (Int32.ofInt 1)).toInt → ((S 99 65) - (Int32.ofInt 1)).toInt < 2 → (0 ≤ ((S 99 65) - (Int32.ofInt 1)).toInt → ((S 99 65) - (Int32.ofInt 1)).toInt < 2 → K (g_X12_repeats (S 134 (((S 99 65) - (Int32.ofInt 1)).toInt.toNat)) (S 135 (((S 99 65) - (Int32.ofInt 1)).toInt.toNat)) (S 136 (((S 99 65) - (Int32.ofInt 1)).toInt.toNat)) (z_s (z_s S 99 65 ((S 99 65) - (Int32.ofInt 1))) 99 3 ((S 99 3) + (Int32.ofInt 1)))))))))))))
set_option maxRecDepth 4000 in
theorem hd_X12_monthTold (L : Nat) (xs : Nat → Int32) {R : v_Rf}  (H244 : Int32 → Int32 → v_Sf → Prop) (K : v_Sf → Prop) (k244 : ∀ (x2 : Int32) (x3 : Int32) (S : v_Sf), H244 x2 x3 S → D_X12_monthTold_244 H244 K x2 x3 S) : ∀ n, (∀ (d : Nat) (j1 : Int32) (x2 : Int32) (x3 : Int32) (S : v_Sf), H244 x2 x3 S → u_P L xs n d m_X12_monthTold 244 [(0, .ref 100), (1, .int j1), (2, .int x2), (3, .int x3)] [] S R (z_V R K)) := by
  intro n
  induction n using Nat.strongRecOn with
  | ind n ih =>
    intro d j1 x2 x3 S hD
    have hD := k244 x2 x3 S hD
    unfold D_X12_monthTold_244 at hD
    show u_P L xs n d m_X12_monthTold 244 [(0, .ref 100), (1, .int j1), (2, .int x2), (3, .int x3)] [] S R _
    refine u_st1 rfl (fun _ => rfl) (fun m hm => ?_)
    refine u_st rfl (fun _ => rfl) ?_
    show u_P L xs m d m_X12_monthTold 246 [(0, .ref 100), (1, .int j1), (2, .int x2), (3, .int x3)] [.int x2, .int x3] S R _
    refine u_ic_ge rfl (fun h1 => ?_) (fun h1 => ?_)
    · have hD := hD.1 h1
      show u_P L xs m d m_X12_monthTold 286 [(0, .ref 100), (1, .int j1), (2, .int x2), (3, .int x3)] [] S R _
      refine u_st rfl (fun _ => rfl) ?_
      refine u_st rfl (fun _ => rfl) ?_
      show u_P L xs m d m_X12_monthTold 288 [(0, .ref 100), (1, .int j1), (2, .int x2), (3, .int x3)] [.ref 100, .ref 100] S R _
      refine u_getE (v := S 99 64) rfl v_tyM rfl rfl ?_
      refine u_st rfl (fun _ => rfl) ?_
      refine u_st rfl (fun _ => rfl) ?_
      show u_P L xs m d m_X12_monthTold 293 [(0, .ref 100), (1, .int j1), (2, .int x2), (3, .int x3)] [.int ((S 99 64) + x2), .ref 100] S R _
      refine u_put rfl v_tyM rfl ?_
      refine u_st rfl (fun _ => rfl) ?_
      refine u_st rfl (fun _ => rfl) ?_
      show u_P L xs m d m_X12_monthTold 298 [(0, .ref 100), (1, .int j1), (2, .int x2), (3, .int x3)] [.int (Int32.ofInt 1), .ref 100] (z_s S 99 64 ((S 99 64) + x2)) R _
      refine u_put rfl v_tyM rfl ?_
      refine u_st rfl (fun _ => rfl) ?_
      refine u_st rfl (fun _ => rfl) ?_
      show u_P L xs m d m_X12_monthTold 303 [(0, .ref 100), (1, .int j1), (2, .int x2), (3, .int x3)] [.ref 100, .ref 100] (z_s (z_s S 99 64 ((S 99 64) + x2)) 99 66 (Int32.ofInt 1)) R _
      refine u_getE (v := S 99 3) rfl v_tyM rfl ((z_sn (fun h => absurd h.2 (by decide))).trans (z_sn (fun h => absurd h.2 (by decide)))) ?_
      refine u_st rfl (fun _ => rfl) ?_
      refine u_st rfl (fun _ => rfl) ?_
      show u_P L xs m d m_X12_monthTold 308 [(0, .ref 100), (1, .int j1), (2, .int x2), (3, .int x3)] [.int ((S 99 3) + (Int32.ofInt 1)), .ref 100] (z_s (z_s S 99 64 ((S 99 64) + x2)) 99 66 (Int32.ofInt 1)) R _
      refine u_put rfl v_tyM rfl ?_
      show u_P L xs m d m_X12_monthTold 311 [(0, .ref 100), (1, .int j1), (2, .int x2), (3, .int x3)] [] (z_s (z_s (z_s S 99 64 ((S 99 64) + x2)) 99 66 (Int32.ofInt 1)) 99 3 ((S 99 3) + (Int32.ofInt 1))) R _
      exact u_ret rfl rfl ⟨rfl, rfl, hD⟩
    · have hD := hD.2 h1
      show u_P L xs m d m_X12_monthTold 249 [(0, .ref 100), (1, .int j1), (2, .int x2), (3, .int x3)] [] S R _
      refine u_st rfl (fun _ => rfl) ?_
      show u_P L xs m d m_X12_monthTold 250 [(0, .ref 100), (1, .int j1), (2, .int x2), (3, .int x3)] [.ref 100] S R _
      refine u_getr rfl v_tyM rfl ?_
      refine u_st rfl (fun _ => rfl) ?_
      show u_P L xs m d m_X12_monthTold 254 [(0, .ref 100), (1, .int j1), (2, .int x2), (3, .int x3)] [.ref 100, .ref 134] S R _
      refine u_getE (v := S 99 64) rfl v_tyM rfl rfl ?_
      refine u_st rfl (fun _ => rfl) ?_
      refine u_st rfl (fun _ => rfl) ?_
      refine u_st rfl (fun _ => rfl) ?_
      show u_P L xs m d m_X12_monthTold 260 [(0, .ref 100), (1, .int j1), (2, .int x2), (3, .int x3)] [.ref 100, .int ((S 99 64) + x3), .ref 134] S R _
      refine u_cv (rest := [.int ((S 99 64) + x3), .ref 134]) rfl (by decide) mt_X12_here v_tyM rfl rfl rfl (Nat.le_of_ble_eq_true rfl) (Nat.le_of_ble_eq_true rfl) (Nat.le_of_ble_eq_true rfl) (fun d' => c_X12_here L xs m d' S R) ?_
      rintro _ _ _ ⟨_, rfl, rfl, rfl, rfl⟩
      refine u_st rfl (fun _ => rfl) ?_
      show u_P L xs m d m_X12_monthTold 265 [(0, .ref 100), (1, .int j1), (2, .int x2), (3, .int x3)] [.int (Int32.ofInt 46), .int (f_X12_here S), .int ((S 99 64) + x3), .ref 134] S R _
      refine u_ic_ne rfl (fun h2 => ?_) (fun h2 => ?_)
      · have hD := hD.1 h2
        show u_P L xs m d m_X12_monthTold 272 [(0, .ref 100), (1, .int j1), (2, .int x2), (3, .int x3)] [.int ((S 99 64) + x3), .ref 134] S R _
        refine u_st rfl (fun _ => rfl) ?_
        show u_P L xs m d m_X12_monthTold 273 [(0, .ref 100), (1, .int j1), (2, .int x2), (3, .int x3)] [.ref 100, .int ((S 99 64) + x3), .ref 134] S R _
        refine u_cv (rest := [.int ((S 99 64) + x3), .ref 134]) rfl (by decide) mt_X12_here v_tyM rfl rfl rfl (Nat.le_of_ble_eq_true rfl) (Nat.le_of_ble_eq_true rfl) (Nat.le_of_ble_eq_true rfl) (fun d' => c_X12_here L xs m d' S R) ?_
        rintro _ _ _ ⟨_, rfl, rfl, rfl, rfl⟩
        refine u_st rfl (fun _ => rfl) ?_
        refine u_st rfl (fun _ => rfl) ?_
        show u_P L xs m d m_X12_monthTold 279 [(0, .ref 100), (1, .int j1), (2, .int x2), (3, .int x3)] [.int ((f_X12_here S) - (Int32.ofInt 65)), .int ((S 99 64) + x3), .ref 134] S R _
        refine u_iast rfl rfl (fun b31 b32 => ?_)
        have hD := hD b31 b32
        show u_P L xs m d m_X12_monthTold 280 [(0, .ref 100), (1, .int j1), (2, .int x2), (3, .int x3)] [] (z_s S 133 (((S 99 64) + x3).toInt.toNat) ((f_X12_here S) - (Int32.ofInt 65))) R _
        refine u_st rfl (fun _ => rfl) ?_
        refine u_st rfl (fun _ => rfl) ?_
        refine u_lc (b := [(0, .ref 100), (1, .int j1), (2, .int x2), (3, .int (x3 + (Int32.ofInt 1)))]) (show ([3, 0, 1, 2] : List Nat).Nodup by decide) (show ([0, 1, 2, 3] : List Nat).Nodup by decide) (fun i => match i with | 0 => rfl | 1 => rfl | 2 => rfl | 3 => rfl | _ + 4 => rfl) ?_
        exact (ih m hm) d j1 x2 (x3 + (Int32.ofInt 1)) (z_s S 133 (((S 99 64) + x3).toInt.toNat) ((f_X12_here S) - (Int32.ofInt 65))) hD
      · have hD := hD.2 h2
        show u_P L xs m d m_X12_monthTold 268 [(0, .ref 100), (1, .int j1), (2, .int x2), (3, .int x3)] [.int ((S 99 64) + x3), .ref 134] S R _
        refine u_st rfl (fun _ => rfl) ?_
        refine u_st rfl (fun _ => rfl) ?_
        show u_P L xs m d m_X12_monthTold 279 [(0, .ref 100), (1, .int j1), (2, .int x2), (3, .int x3)] [.int (Int32.ofInt (-1)), .int ((S 99 64) + x3), .ref 134] S R _
        refine u_iast rfl rfl (fun b41 b42 => ?_)
        have hD := hD b41 b42
        show u_P L xs m d m_X12_monthTold 280 [(0, .ref 100), (1, .int j1), (2, .int x2), (3, .int x3)] [] (z_s S 133 (((S 99 64) + x3).toInt.toNat) (Int32.ofInt (-1))) R _
        refine u_st rfl (fun _ => rfl) ?_
        refine u_st rfl (fun _ => rfl) ?_
        refine u_lc (b := [(0, .ref 100), (1, .int j1), (2, .int x2), (3, .int (x3 + (Int32.ofInt 1)))]) (show ([3, 0, 1, 2] : List Nat).Nodup by decide) (show ([0, 1, 2, 3] : List Nat).Nodup by decide) (fun i => match i with | 0 => rfl | 1 => rfl | 2 => rfl | 3 => rfl | _ + 4 => rfl) ?_
        exact (ih m hm) d j1 x2 (x3 + (Int32.ofInt 1)) (z_s S 133 (((S 99 64) + x3).toInt.toNat) (Int32.ofInt (-1))) hD
set_option maxRecDepth 4000 in
theorem w_X12_monthTold (L : Nat) (xs : Nat → Int32) {R : v_Rf}  (H244 : Int32 → Int32 → v_Sf → Prop) (K : v_Sf → Prop) (k244 : ∀ (x2 : Int32) (x3 : Int32) (S : v_Sf), H244 x2 x3 S → D_X12_monthTold_244 H244 K x2 x3 S) (n d : Nat) (S : v_Sf) (hD : D_X12_monthTold H244 K S) : u_P L xs n d m_X12_monthTold 0 (lv_args 0 [.ref 100]) [] S R (z_V R K) := by
  unfold D_X12_monthTold at hD
  show u_P L xs n d m_X12_monthTold 0 [(0, .ref 100)] [] S R _
  refine u_st rfl (fun _ => rfl) ?_
  show u_P L xs n d m_X12_monthTold 1 [(0, .ref 100)] [.ref 100] S R _
  refine u_getE (v := S 99 3) rfl v_tyM rfl rfl ?_
  refine u_st rfl (fun _ => rfl) ?_
  refine u_st rfl (fun _ => rfl) ?_
  show u_P L xs n d m_X12_monthTold 6 [(1, .int (S 99 3)), (0, .ref 100)] [.ref 100] S R _
  refine u_cv (rest := []) rfl (by decide) mt_X12_here v_tyM rfl rfl rfl (Nat.le_of_ble_eq_true rfl) (Nat.le_of_ble_eq_true rfl) (Nat.le_of_ble_eq_true rfl) (fun d' => c_X12_here L xs n d' S R) ?_
  rintro _ _ _ ⟨_, rfl, rfl, rfl, rfl⟩
  refine u_st rfl (fun _ => rfl) ?_
  show u_P L xs n d m_X12_monthTold 11 [(1, .int (S 99 3)), (0, .ref 100)] [.int (Int32.ofInt 41), .int (f_X12_here S)] S R _
  refine u_ic_ne rfl (fun h1 => ?_) (fun h1 => ?_)
  · have hD := hD.1 h1
    show u_P L xs n d m_X12_monthTold 80 [(1, .int (S 99 3)), (0, .ref 100)] [] S R _
    refine u_st rfl (fun _ => rfl) ?_
    show u_P L xs n d m_X12_monthTold 81 [(1, .int (S 99 3)), (0, .ref 100)] [.ref 100] S R _
    refine u_cv (rest := []) rfl (by decide) mt_X12_timesTold v_tyM rfl rfl rfl (Nat.le_of_ble_eq_true rfl) (Nat.le_of_ble_eq_true rfl) (Nat.le_of_ble_eq_true rfl) (fun d' => c_X12_timesTold L xs n d' S R) ?_
    rintro _ _ _ ⟨_, rfl, rfl, rfl, rfl⟩
    refine u_st rfl (fun _ => rfl) ?_
    refine u_st rfl (fun _ => rfl) ?_
    show u_P L xs n d m_X12_monthTold 86 [(2, .int (f_X12_timesTold S)), (1, .int (S 99 3)), (0, .ref 100)] [.ref 100] (g_X12_timesTold S) R _
    refine u_cv (rest := []) rfl (by decide) mt_X12_here v_tyM rfl rfl rfl (Nat.le_of_ble_eq_true rfl) (Nat.le_of_ble_eq_true rfl) (Nat.le_of_ble_eq_true rfl) (fun d' => c_X12_here L xs n d' (g_X12_timesTold S) R) ?_
    rintro _ _ _ ⟨_, rfl, rfl, rfl, rfl⟩
    refine u_st rfl (fun _ => rfl) ?_
    show u_P L xs n d m_X12_monthTold 91 [(2, .int (f_X12_timesTold S)), (1, .int (S 99 3)), (0, .ref 100)] [.int (Int32.ofInt 40), .int (f_X12_here (g_X12_timesTold S))] (g_X12_timesTold S) R _
    refine u_ic_ne rfl (fun h2 => ?_) (fun h2 => ?_)
    · have hD := hD.1 h2
      show u_P L xs n d m_X12_monthTold 178 [(2, .int (f_X12_timesTold S)), (1, .int (S 99 3)), (0, .ref 100)] [] (g_X12_timesTold S) R _
      refine u_st rfl (fun _ => rfl) ?_
      show u_P L xs n d m_X12_monthTold 179 [(2, .int (f_X12_timesTold S)), (1, .int (S 99 3)), (0, .ref 100)] [.ref 100] (g_X12_timesTold S) R _
      refine u_cv (rest := []) rfl (by decide) mt_X12_here v_tyM rfl rfl rfl (Nat.le_of_ble_eq_true rfl) (Nat.le_of_ble_eq_true rfl) (Nat.le_of_ble_eq_true rfl) (fun d' => c_X12_here L xs n d' (g_X12_timesTold S) R) ?_
      rintro _ _ _ ⟨_, rfl, rfl, rfl, rfl⟩
      refine u_st rfl (fun _ => rfl) ?_
      show u_P L xs n d m_X12_monthTold 184 [(2, .int (f_X12_timesTold S)), (1, .int (S 99 3)), (0, .ref 100)] [.int (Int32.ofInt 46), .int (f_X12_here (g_X12_timesTold S))] (g_X12_timesTold S) R _
      refine u_ic_eq rfl (fun h3 => ?_) (fun h3 => ?_)
      · have hD := hD.1 h3
        show u_P L xs n d m_X12_monthTold 216 [(2, .int (f_X12_timesTold S)), (1, .int (S 99 3)), (0, .ref 100)] [] (g_X12_timesTold S) R _
        refine u_st rfl (fun _ => rfl) ?_
        show u_P L xs n d m_X12_monthTold 217 [(2, .int (f_X12_timesTold S)), (1, .int (S 99 3)), (0, .ref 100)] [.ref 100] (g_X12_timesTold S) R _
        refine u_getE (v := (g_X12_timesTold S) 99 64) rfl v_tyM rfl rfl ?_
        refine u_st rfl (fun _ => rfl) ?_
        refine u_st rfl (fun _ => rfl) ?_
        refine u_st rfl (fun _ => rfl) ?_
        show u_P L xs n d m_X12_monthTold 224 [(2, .int (f_X12_timesTold S)), (1, .int (S 99 3)), (0, .ref 100)] [.int (Int32.ofInt 48), .int (((g_X12_timesTold S) 99 64) + (f_X12_timesTold S))] (g_X12_timesTold S) R _
        refine u_ic_le rfl (fun h4 => ?_) (fun h4 => ?_)
        · have hD := hD.1 h4
          show u_P L xs n d m_X12_monthTold 234 [(2, .int (f_X12_timesTold S)), (1, .int (S 99 3)), (0, .ref 100)] [] (g_X12_timesTold S) R _
          refine u_st rfl (fun _ => rfl) ?_
          show u_P L xs n d m_X12_monthTold 235 [(2, .int (f_X12_timesTold S)), (1, .int (S 99 3)), (0, .ref 100)] [.ref 100] (g_X12_timesTold S) R _
          refine u_cv (rest := []) rfl (by decide) mt_X12_isGood v_tyM rfl rfl rfl (Nat.le_of_ble_eq_true rfl) (Nat.le_of_ble_eq_true rfl) (Nat.le_of_ble_eq_true rfl) (fun d' => c_X12_isGood L xs n d' (g_X12_timesTold S) R) ?_
          rintro _ _ _ ⟨_, rfl, rfl, rfl, rfl⟩
          show u_P L xs n d m_X12_monthTold 238 [(2, .int (f_X12_timesTold S)), (1, .int (S 99 3)), (0, .ref 100)] [.int (f_X12_isGood (g_X12_timesTold S))] (g_X12_timesTold S) R _
          refine u_if_ne rfl (fun h5 => ?_) (fun h5 => ?_)
          · have hD := hD.1 h5
            show u_P L xs n d m_X12_monthTold 242 [(2, .int (f_X12_timesTold S)), (1, .int (S 99 3)), (0, .ref 100)] [] (g_X12_timesTold S) R _
            refine u_st rfl (fun _ => rfl) ?_
            refine u_st rfl (fun _ => rfl) ?_
            refine u_lc (b := [(0, .ref 100), (1, .int (S 99 3)), (2, .int (f_X12_timesTold S)), (3, .int (Int32.ofInt 0))]) (show ([3, 2, 1, 0] : List Nat).Nodup by decide) (show ([0, 1, 2, 3] : List Nat).Nodup by decide) (fun i => match i with | 0 => rfl | 1 => rfl | 2 => rfl | 3 => rfl | _ + 4 => rfl) ?_
            exact (hd_X12_monthTold L xs H244 K k244 n) d (S 99 3) (f_X12_timesTold S) (Int32.ofInt 0) (g_X12_timesTold S) hD
          · have hD := hD.2 h5
            show u_P L xs n d m_X12_monthTold 241 [(2, .int (f_X12_timesTold S)), (1, .int (S 99 3)), (0, .ref 100)] [] (g_X12_timesTold S) R _
            exact u_ret rfl rfl ⟨rfl, rfl, hD⟩
        · have hD := hD.2 h4
          show u_P L xs n d m_X12_monthTold 227 [(2, .int (f_X12_timesTold S)), (1, .int (S 99 3)), (0, .ref 100)] [] (g_X12_timesTold S) R _
          refine u_st rfl (fun _ => rfl) ?_
          refine u_st rfl (fun _ => rfl) ?_
          refine u_st rfl (fun _ => rfl) ?_
          show u_P L xs n d m_X12_monthTold 231 [(2, .int (f_X12_timesTold S)), (1, .int (S 99 3)), (0, .ref 100)] [.int (S 99 3), .int (Int32.ofInt 6), .ref 100] (g_X12_timesTold S) R _
          refine u_cv (rest := []) rfl (by decide) mt_X12_wrongs v_tyM rfl rfl rfl (Nat.le_of_ble_eq_true rfl) (Nat.le_of_ble_eq_true rfl) (Nat.le_of_ble_eq_true rfl) (fun d' => c_X12_wrongs L xs n d' (Int32.ofInt 6) (S 99 3) (g_X12_timesTold S) R) ?_
          rintro _ _ _ ⟨rfl, rfl, rfl⟩
          refine u_st rfl (fun _ => rfl) ?_
          show u_P L xs n d m_X12_monthTold 235 [(2, .int (f_X12_timesTold S)), (1, .int (S 99 3)), (0, .ref 100)] [.ref 100] (g_X12_wrongs (Int32.ofInt 6) (S 99 3) (g_X12_timesTold S)) R _
          refine u_cv (rest := []) rfl (by decide) mt_X12_isGood v_tyM rfl rfl rfl (Nat.le_of_ble_eq_true rfl) (Nat.le_of_ble_eq_true rfl) (Nat.le_of_ble_eq_true rfl) (fun d' => c_X12_isGood L xs n d' (g_X12_wrongs (Int32.ofInt 6) (S 99 3) (g_X12_timesTold S)) R) ?_
          rintro _ _ _ ⟨_, rfl, rfl, rfl, rfl⟩
          show u_P L xs n d m_X12_monthTold 238 [(2, .int (f_X12_timesTold S)), (1, .int (S 99 3)), (0, .ref 100)] [.int (f_X12_isGood (g_X12_wrongs (Int32.ofInt 6) (S 99 3) (g_X12_timesTold S)))] (g_X12_wrongs (Int32.ofInt 6) (S 99 3) (g_X12_timesTold S)) R _
          refine u_if_ne rfl (fun h6 => ?_) (fun h6 => ?_)
          · have hD := hD.1 h6
            show u_P L xs n d m_X12_monthTold 242 [(2, .int (f_X12_timesTold S)), (1, .int (S 99 3)), (0, .ref 100)] [] (g_X12_wrongs (Int32.ofInt 6) (S 99 3) (g_X12_timesTold S)) R _
            refine u_st rfl (fun _ => rfl) ?_
            refine u_st rfl (fun _ => rfl) ?_
            refine u_lc (b := [(0, .ref 100), (1, .int (S 99 3)), (2, .int (f_X12_timesTold S)), (3, .int (Int32.ofInt 0))]) (show ([3, 2, 1, 0] : List Nat).Nodup by decide) (show ([0, 1, 2, 3] : List Nat).Nodup by decide) (fun i => match i with | 0 => rfl | 1 => rfl | 2 => rfl | 3 => rfl | _ + 4 => rfl) ?_
            exact (hd_X12_monthTold L xs H244 K k244 n) d (S 99 3) (f_X12_timesTold S) (Int32.ofInt 0) (g_X12_wrongs (Int32.ofInt 6) (S 99 3) (g_X12_timesTold S)) hD
          · have hD := hD.2 h6
            show u_P L xs n d m_X12_monthTold 241 [(2, .int (f_X12_timesTold S)), (1, .int (S 99 3)), (0, .ref 100)] [] (g_X12_wrongs (Int32.ofInt 6) (S 99 3) (g_X12_timesTold S)) R _
            exact u_ret rfl rfl ⟨rfl, rfl, hD⟩
      · have hD := hD.2 h3
        show u_P L xs n d m_X12_monthTold 187 [(2, .int (f_X12_timesTold S)), (1, .int (S 99 3)), (0, .ref 100)] [] (g_X12_timesTold S) R _
        refine u_st rfl (fun _ => rfl) ?_
        show u_P L xs n d m_X12_monthTold 188 [(2, .int (f_X12_timesTold S)), (1, .int (S 99 3)), (0, .ref 100)] [.ref 100] (g_X12_timesTold S) R _
        refine u_cv (rest := []) rfl (by decide) mt_X12_here v_tyM rfl rfl rfl (Nat.le_of_ble_eq_true rfl) (Nat.le_of_ble_eq_true rfl) (Nat.le_of_ble_eq_true rfl) (fun d' => c_X12_here L xs n d' (g_X12_timesTold S) R) ?_
        rintro _ _ _ ⟨_, rfl, rfl, rfl, rfl⟩
        refine u_st rfl (fun _ => rfl) ?_
        refine u_st rfl (fun _ => rfl) ?_
        refine u_st rfl (fun _ => rfl) ?_
        show u_P L xs n d m_X12_monthTold 198 [(2, .int (f_X12_timesTold S)), (1, .int (S 99 3)), (0, .ref 100)] [.long (Int64.ofInt 74), .long (Int64.ofInt 65), .long ((f_X12_here (g_X12_timesTold S)).toInt64)] (g_X12_timesTold S) R _
        refine u_cs (ac := [.long ((f_X12_here (g_X12_timesTold S)).toInt64), .long (Int64.ofInt 65), .long (Int64.ofInt 74)]) (rest := []) rfl (by decide) mt_X12_lies (fun _ => rfl) (Nat.le_of_ble_eq_true rfl) (Nat.le_of_ble_eq_true rfl) (fun d' => z_liesC L xs n d' ((f_X12_here (g_X12_timesTold S))) (Int64.ofInt 65) (Int64.ofInt 74) (lo := 65) (hi := 74) rfl rfl (g_X12_timesTold S) R) ?_
        rintro _ _ _ ⟨_, rfl, rfl, rfl, rfl⟩
        show u_P L xs n d m_X12_monthTold 201 [(2, .int (f_X12_timesTold S)), (1, .int (S 99 3)), (0, .ref 100)] [.int (z_in ((f_X12_here (g_X12_timesTold S))) 65 74)] (g_X12_timesTold S) R _
        refine u_if_ne rfl (fun h7 => ?_) (fun h7 => ?_)
        · have hD := hD.1 h7
          show u_P L xs n d m_X12_monthTold 216 [(2, .int (f_X12_timesTold S)), (1, .int (S 99 3)), (0, .ref 100)] [] (g_X12_timesTold S) R _
          refine u_st rfl (fun _ => rfl) ?_
          show u_P L xs n d m_X12_monthTold 217 [(2, .int (f_X12_timesTold S)), (1, .int (S 99 3)), (0, .ref 100)] [.ref 100] (g_X12_timesTold S) R _
          refine u_getE (v := (g_X12_timesTold S) 99 64) rfl v_tyM rfl rfl ?_
          refine u_st rfl (fun _ => rfl) ?_
          refine u_st rfl (fun _ => rfl) ?_
          refine u_st rfl (fun _ => rfl) ?_
          show u_P L xs n d m_X12_monthTold 224 [(2, .int (f_X12_timesTold S)), (1, .int (S 99 3)), (0, .ref 100)] [.int (Int32.ofInt 48), .int (((g_X12_timesTold S) 99 64) + (f_X12_timesTold S))] (g_X12_timesTold S) R _
          refine u_ic_le rfl (fun h8 => ?_) (fun h8 => ?_)
          · have hD := hD.1 h8
            show u_P L xs n d m_X12_monthTold 234 [(2, .int (f_X12_timesTold S)), (1, .int (S 99 3)), (0, .ref 100)] [] (g_X12_timesTold S) R _
            refine u_st rfl (fun _ => rfl) ?_
            show u_P L xs n d m_X12_monthTold 235 [(2, .int (f_X12_timesTold S)), (1, .int (S 99 3)), (0, .ref 100)] [.ref 100] (g_X12_timesTold S) R _
            refine u_cv (rest := []) rfl (by decide) mt_X12_isGood v_tyM rfl rfl rfl (Nat.le_of_ble_eq_true rfl) (Nat.le_of_ble_eq_true rfl) (Nat.le_of_ble_eq_true rfl) (fun d' => c_X12_isGood L xs n d' (g_X12_timesTold S) R) ?_
            rintro _ _ _ ⟨_, rfl, rfl, rfl, rfl⟩
            show u_P L xs n d m_X12_monthTold 238 [(2, .int (f_X12_timesTold S)), (1, .int (S 99 3)), (0, .ref 100)] [.int (f_X12_isGood (g_X12_timesTold S))] (g_X12_timesTold S) R _
            refine u_if_ne rfl (fun h9 => ?_) (fun h9 => ?_)
            · have hD := hD.1 h9
              show u_P L xs n d m_X12_monthTold 242 [(2, .int (f_X12_timesTold S)), (1, .int (S 99 3)), (0, .ref 100)] [] (g_X12_timesTold S) R _
              refine u_st rfl (fun _ => rfl) ?_
              refine u_st rfl (fun _ => rfl) ?_
              refine u_lc (b := [(0, .ref 100), (1, .int (S 99 3)), (2, .int (f_X12_timesTold S)), (3, .int (Int32.ofInt 0))]) (show ([3, 2, 1, 0] : List Nat).Nodup by decide) (show ([0, 1, 2, 3] : List Nat).Nodup by decide) (fun i => match i with | 0 => rfl | 1 => rfl | 2 => rfl | 3 => rfl | _ + 4 => rfl) ?_
              exact (hd_X12_monthTold L xs H244 K k244 n) d (S 99 3) (f_X12_timesTold S) (Int32.ofInt 0) (g_X12_timesTold S) hD
            · have hD := hD.2 h9
              show u_P L xs n d m_X12_monthTold 241 [(2, .int (f_X12_timesTold S)), (1, .int (S 99 3)), (0, .ref 100)] [] (g_X12_timesTold S) R _
              exact u_ret rfl rfl ⟨rfl, rfl, hD⟩
          · have hD := hD.2 h8
            show u_P L xs n d m_X12_monthTold 227 [(2, .int (f_X12_timesTold S)), (1, .int (S 99 3)), (0, .ref 100)] [] (g_X12_timesTold S) R _
            refine u_st rfl (fun _ => rfl) ?_
            refine u_st rfl (fun _ => rfl) ?_
            refine u_st rfl (fun _ => rfl) ?_
            show u_P L xs n d m_X12_monthTold 231 [(2, .int (f_X12_timesTold S)), (1, .int (S 99 3)), (0, .ref 100)] [.int (S 99 3), .int (Int32.ofInt 6), .ref 100] (g_X12_timesTold S) R _
            refine u_cv (rest := []) rfl (by decide) mt_X12_wrongs v_tyM rfl rfl rfl (Nat.le_of_ble_eq_true rfl) (Nat.le_of_ble_eq_true rfl) (Nat.le_of_ble_eq_true rfl) (fun d' => c_X12_wrongs L xs n d' (Int32.ofInt 6) (S 99 3) (g_X12_timesTold S) R) ?_
            rintro _ _ _ ⟨rfl, rfl, rfl⟩
            refine u_st rfl (fun _ => rfl) ?_
            show u_P L xs n d m_X12_monthTold 235 [(2, .int (f_X12_timesTold S)), (1, .int (S 99 3)), (0, .ref 100)] [.ref 100] (g_X12_wrongs (Int32.ofInt 6) (S 99 3) (g_X12_timesTold S)) R _
            refine u_cv (rest := []) rfl (by decide) mt_X12_isGood v_tyM rfl rfl rfl (Nat.le_of_ble_eq_true rfl) (Nat.le_of_ble_eq_true rfl) (Nat.le_of_ble_eq_true rfl) (fun d' => c_X12_isGood L xs n d' (g_X12_wrongs (Int32.ofInt 6) (S 99 3) (g_X12_timesTold S)) R) ?_
            rintro _ _ _ ⟨_, rfl, rfl, rfl, rfl⟩
            show u_P L xs n d m_X12_monthTold 238 [(2, .int (f_X12_timesTold S)), (1, .int (S 99 3)), (0, .ref 100)] [.int (f_X12_isGood (g_X12_wrongs (Int32.ofInt 6) (S 99 3) (g_X12_timesTold S)))] (g_X12_wrongs (Int32.ofInt 6) (S 99 3) (g_X12_timesTold S)) R _
            refine u_if_ne rfl (fun h10 => ?_) (fun h10 => ?_)
            · have hD := hD.1 h10
              show u_P L xs n d m_X12_monthTold 242 [(2, .int (f_X12_timesTold S)), (1, .int (S 99 3)), (0, .ref 100)] [] (g_X12_wrongs (Int32.ofInt 6) (S 99 3) (g_X12_timesTold S)) R _
              refine u_st rfl (fun _ => rfl) ?_
              refine u_st rfl (fun _ => rfl) ?_
              refine u_lc (b := [(0, .ref 100), (1, .int (S 99 3)), (2, .int (f_X12_timesTold S)), (3, .int (Int32.ofInt 0))]) (show ([3, 2, 1, 0] : List Nat).Nodup by decide) (show ([0, 1, 2, 3] : List Nat).Nodup by decide) (fun i => match i with | 0 => rfl | 1 => rfl | 2 => rfl | 3 => rfl | _ + 4 => rfl) ?_
              exact (hd_X12_monthTold L xs H244 K k244 n) d (S 99 3) (f_X12_timesTold S) (Int32.ofInt 0) (g_X12_wrongs (Int32.ofInt 6) (S 99 3) (g_X12_timesTold S)) hD
            · have hD := hD.2 h10
              show u_P L xs n d m_X12_monthTold 241 [(2, .int (f_X12_timesTold S)), (1, .int (S 99 3)), (0, .ref 100)] [] (g_X12_wrongs (Int32.ofInt 6) (S 99 3) (g_X12_timesTold S)) R _
              exact u_ret rfl rfl ⟨rfl, rfl, hD⟩
        · have hD := hD.2 h7
          show u_P L xs n d m_X12_monthTold 204 [(2, .int (f_X12_timesTold S)), (1, .int (S 99 3)), (0, .ref 100)] [] (g_X12_timesTold S) R _
          refine u_st rfl (fun _ => rfl) ?_
          refine u_st rfl (fun _ => rfl) ?_
          refine u_st rfl (fun _ => rfl) ?_
          show u_P L xs n d m_X12_monthTold 207 [(2, .int (f_X12_timesTold S)), (1, .int (S 99 3)), (0, .ref 100)] [.ref 100, .int (Int32.ofInt 1), .ref 100] (g_X12_timesTold S) R _
          refine u_getE (v := (g_X12_timesTold S) 99 3) rfl v_tyM rfl rfl ?_
          show u_P L xs n d m_X12_monthTold 210 [(2, .int (f_X12_timesTold S)), (1, .int (S 99 3)), (0, .ref 100)] [.int ((g_X12_timesTold S) 99 3), .int (Int32.ofInt 1), .ref 100] (g_X12_timesTold S) R _
          refine u_cv (rest := []) rfl (by decide) mt_X12_wrongs v_tyM rfl rfl rfl (Nat.le_of_ble_eq_true rfl) (Nat.le_of_ble_eq_true rfl) (Nat.le_of_ble_eq_true rfl) (fun d' => c_X12_wrongs L xs n d' (Int32.ofInt 1) ((g_X12_timesTold S) 99 3) (g_X12_timesTold S) R) ?_
          rintro _ _ _ ⟨rfl, rfl, rfl⟩
          refine u_st rfl (fun _ => rfl) ?_
          refine u_st rfl (fun _ => rfl) ?_
          show u_P L xs n d m_X12_monthTold 235 [(2, .int (f_X12_timesTold S)), (1, .int (S 99 3)), (0, .ref 100)] [.ref 100] (g_X12_wrongs (Int32.ofInt 1) ((g_X12_timesTold S) 99 3) (g_X12_timesTold S)) R _
          refine u_cv (rest := []) rfl (by decide) mt_X12_isGood v_tyM rfl rfl rfl (Nat.le_of_ble_eq_true rfl) (Nat.le_of_ble_eq_true rfl) (Nat.le_of_ble_eq_true rfl) (fun d' => c_X12_isGood L xs n d' (g_X12_wrongs (Int32.ofInt 1) ((g_X12_timesTold S) 99 3) (g_X12_timesTold S)) R) ?_
          rintro _ _ _ ⟨_, rfl, rfl, rfl, rfl⟩
          show u_P L xs n d m_X12_monthTold 238 [(2, .int (f_X12_timesTold S)), (1, .int (S 99 3)), (0, .ref 100)] [.int (f_X12_isGood (g_X12_wrongs (Int32.ofInt 1) ((g_X12_timesTold S) 99 3) (g_X12_timesTold S)))] (g_X12_wrongs (Int32.ofInt 1) ((g_X12_timesTold S) 99 3) (g_X12_timesTold S)) R _
          refine u_if_ne rfl (fun h11 => ?_) (fun h11 => ?_)
          · have hD := hD.1 h11
            show u_P L xs n d m_X12_monthTold 242 [(2, .int (f_X12_timesTold S)), (1, .int (S 99 3)), (0, .ref 100)] [] (g_X12_wrongs (Int32.ofInt 1) ((g_X12_timesTold S) 99 3) (g_X12_timesTold S)) R _
            refine u_st rfl (fun _ => rfl) ?_
            refine u_st rfl (fun _ => rfl) ?_
            refine u_lc (b := [(0, .ref 100), (1, .int (S 99 3)), (2, .int (f_X12_timesTold S)), (3, .int (Int32.ofInt 0))]) (show ([3, 2, 1, 0] : List Nat).Nodup by decide) (show ([0, 1, 2, 3] : List Nat).Nodup by decide) (fun i => match i with | 0 => rfl | 1 => rfl | 2 => rfl | 3 => rfl | _ + 4 => rfl) ?_
            exact (hd_X12_monthTold L xs H244 K k244 n) d (S 99 3) (f_X12_timesTold S) (Int32.ofInt 0) (g_X12_wrongs (Int32.ofInt 1) ((g_X12_timesTold S) 99 3) (g_X12_timesTold S)) hD
          · have hD := hD.2 h11
            show u_P L xs n d m_X12_monthTold 241 [(2, .int (f_X12_timesTold S)), (1, .int (S 99 3)), (0, .ref 100)] [] (g_X12_wrongs (Int32.ofInt 1) ((g_X12_timesTold S) 99 3) (g_X12_timesTold S)) R _
            exact u_ret rfl rfl ⟨rfl, rfl, hD⟩
    · have hD := hD.2 h2
      show u_P L xs n d m_X12_monthTold 94 [(2, .int (f_X12_timesTold S)), (1, .int (S 99 3)), (0, .ref 100)] [] (g_X12_timesTold S) R _
      refine u_st rfl (fun _ => rfl) ?_
      show u_P L xs n d m_X12_monthTold 95 [(2, .int (f_X12_timesTold S)), (1, .int (S 99 3)), (0, .ref 100)] [.ref 100] (g_X12_timesTold S) R _
      refine u_getE (v := (g_X12_timesTold S) 99 65) rfl v_tyM rfl rfl ?_
      refine u_st rfl (fun _ => rfl) ?_
      show u_P L xs n d m_X12_monthTold 99 [(2, .int (f_X12_timesTold S)), (1, .int (S 99 3)), (0, .ref 100)] [.int (Int32.ofInt 2), .int ((g_X12_timesTold S) 99 65)] (g_X12_timesTold S) R _
      refine u_ic_ne rfl (fun h12 => ?_) (fun h12 => ?_)
      · have hD := hD.1 h12
        show u_P L xs n d m_X12_monthTold 111 [(2, .int (f_X12_timesTold S)), (1, .int (S 99 3)), (0, .ref 100)] [] (g_X12_timesTold S) R _
        refine u_st rfl (fun _ => rfl) ?_
        show u_P L xs n d m_X12_monthTold 112 [(2, .int (f_X12_timesTold S)), (1, .int (S 99 3)), (0, .ref 100)] [.ref 100] (g_X12_timesTold S) R _
        refine u_cv (rest := []) rfl (by decide) mt_X12_isGood v_tyM rfl rfl rfl (Nat.le_of_ble_eq_true rfl) (Nat.le_of_ble_eq_true rfl) (Nat.le_of_ble_eq_true rfl) (fun d' => c_X12_isGood L xs n d' (g_X12_timesTold S) R) ?_
        rintro _ _ _ ⟨_, rfl, rfl, rfl, rfl⟩
        show u_P L xs n d m_X12_monthTold 115 [(2, .int (f_X12_timesTold S)), (1, .int (S 99 3)), (0, .ref 100)] [.int (f_X12_isGood (g_X12_timesTold S))] (g_X12_timesTold S) R _
        refine u_if_ne rfl (fun h13 => ?_) (fun h13 => ?_)
        · have hD := hD.1 h13
          show u_P L xs n d m_X12_monthTold 119 [(2, .int (f_X12_timesTold S)), (1, .int (S 99 3)), (0, .ref 100)] [] (g_X12_timesTold S) R _
          refine u_st rfl (fun _ => rfl) ?_
          show u_P L xs n d m_X12_monthTold 120 [(2, .int (f_X12_timesTold S)), (1, .int (S 99 3)), (0, .ref 100)] [.ref 100] (g_X12_timesTold S) R _
          refine u_getr rfl v_tyM rfl ?_
          refine u_st rfl (fun _ => rfl) ?_
          show u_P L xs n d m_X12_monthTold 124 [(2, .int (f_X12_timesTold S)), (1, .int (S 99 3)), (0, .ref 100)] [.ref 100, .ref 135] (g_X12_timesTold S) R _
          refine u_getE (v := (g_X12_timesTold S) 99 65) rfl v_tyM rfl rfl ?_
          refine u_st rfl (fun _ => rfl) ?_
          show u_P L xs n d m_X12_monthTold 128 [(2, .int (f_X12_timesTold S)), (1, .int (S 99 3)), (0, .ref 100)] [.ref 100, .int ((g_X12_timesTold S) 99 65), .ref 135] (g_X12_timesTold S) R _
          refine u_getE (v := (g_X12_timesTold S) 99 64) rfl v_tyM rfl rfl ?_
          show u_P L xs n d m_X12_monthTold 131 [(2, .int (f_X12_timesTold S)), (1, .int (S 99 3)), (0, .ref 100)] [.int ((g_X12_timesTold S) 99 64), .int ((g_X12_timesTold S) 99 65), .ref 135] (g_X12_timesTold S) R _
          refine u_iast rfl rfl (fun b141 b142 => ?_)
          have hD := hD b141 b142
          show u_P L xs n d m_X12_monthTold 132 [(2, .int (f_X12_timesTold S)), (1, .int (S 99 3)), (0, .ref 100)] [] (z_s (g_X12_timesTold S) 134 (((g_X12_timesTold S) 99 65).toInt.toNat) ((g_X12_timesTold S) 99 64)) R _
          refine u_st rfl (fun _ => rfl) ?_
          show u_P L xs n d m_X12_monthTold 133 [(2, .int (f_X12_timesTold S)), (1, .int (S 99 3)), (0, .ref 100)] [.ref 100] (z_s (g_X12_timesTold S) 134 (((g_X12_timesTold S) 99 65).toInt.toNat) ((g_X12_timesTold S) 99 64)) R _
          refine u_getr rfl v_tyM rfl ?_
          refine u_st rfl (fun _ => rfl) ?_
          show u_P L xs n d m_X12_monthTold 137 [(2, .int (f_X12_timesTold S)), (1, .int (S 99 3)), (0, .ref 100)] [.ref 100, .ref 136] (z_s (g_X12_timesTold S) 134 (((g_X12_timesTold S) 99 65).toInt.toNat) ((g_X12_timesTold S) 99 64)) R _
          refine u_getE (v := (g_X12_timesTold S) 99 65) rfl v_tyM rfl (z_sn (fun h => absurd h.1 (by decide))) ?_
          refine u_st rfl (fun _ => rfl) ?_
          show u_P L xs n d m_X12_monthTold 141 [(2, .int (f_X12_timesTold S)), (1, .int (S 99 3)), (0, .ref 100)] [.int (f_X12_timesTold S), .int ((g_X12_timesTold S) 99 65), .ref 136] (z_s (g_X12_timesTold S) 134 (((g_X12_timesTold S) 99 65).toInt.toNat) ((g_X12_timesTold S) 99 64)) R _
          refine u_iast rfl rfl (fun b151 b152 => ?_)
          have hD := hD b151 b152
          show u_P L xs n d m_X12_monthTold 142 [(2, .int (f_X12_timesTold S)), (1, .int (S 99 3)), (0, .ref 100)] [] (z_s (z_s (g_X12_timesTold S) 134 (((g_X12_timesTold S) 99 65).toInt.toNat) ((g_X12_timesTold S) 99 64)) 135 (((g_X12_timesTold S) 99 65).toInt.toNat) (f_X12_timesTold S)) R _
          refine u_st rfl (fun _ => rfl) ?_
          show u_P L xs n d m_X12_monthTold 143 [(2, .int (f_X12_timesTold S)), (1, .int (S 99 3)), (0, .ref 100)] [.ref 100] (z_s (z_s (g_X12_timesTold S) 134 (((g_X12_timesTold S) 99 65).toInt.toNat) ((g_X12_timesTold S) 99 64)) 135 (((g_X12_timesTold S) 99 65).toInt.toNat) (f_X12_timesTold S)) R _
          refine u_getr rfl v_tyM rfl ?_
          refine u_st rfl (fun _ => rfl) ?_
          show u_P L xs n d m_X12_monthTold 147 [(2, .int (f_X12_timesTold S)), (1, .int (S 99 3)), (0, .ref 100)] [.ref 100, .ref 137] (z_s (z_s (g_X12_timesTold S) 134 (((g_X12_timesTold S) 99 65).toInt.toNat) ((g_X12_timesTold S) 99 64)) 135 (((g_X12_timesTold S) 99 65).toInt.toNat) (f_X12_timesTold S)) R _
          refine u_getE (v := (g_X12_timesTold S) 99 65) rfl v_tyM rfl ((z_sn (fun h => absurd h.1 (by decide))).trans (z_sn (fun h => absurd h.1 (by decide)))) ?_
          refine u_st rfl (fun _ => rfl) ?_
          show u_P L xs n d m_X12_monthTold 151 [(2, .int (f_X12_timesTold S)), (1, .int (S 99 3)), (0, .ref 100)] [.int (S 99 3), .int ((g_X12_timesTold S) 99 65), .ref 137] (z_s (z_s (g_X12_timesTold S) 134 (((g_X12_timesTold S) 99 65).toInt.toNat) ((g_X12_timesTold S) 99 64)) 135 (((g_X12_timesTold S) 99 65).toInt.toNat) (f_X12_timesTold S)) R _
          refine u_iast rfl rfl (fun b161 b162 => ?_)
          have hD := hD b161 b162
          show u_P L xs n d m_X12_monthTold 152 [(2, .int (f_X12_timesTold S)), (1, .int (S 99 3)), (0, .ref 100)] [] (z_s (z_s (z_s (g_X12_timesTold S) 134 (((g_X12_timesTold S) 99 65).toInt.toNat) ((g_X12_timesTold S) 99 64)) 135 (((g_X12_timesTold S) 99 65).toInt.toNat) (f_X12_timesTold S)) 136 (((g_X12_timesTold S) 99 65).toInt.toNat) (S 99 3)) R _
          refine u_st rfl (fun _ => rfl) ?_
          refine u_st rfl (fun _ => rfl) ?_
          show u_P L xs n d m_X12_monthTold 154 [(2, .int (f_X12_timesTold S)), (1, .int (S 99 3)), (0, .ref 100)] [.ref 100, .ref 100] (z_s (z_s (z_s (g_X12_timesTold S) 134 (((g_X12_timesTold S) 99 65).toInt.toNat) ((g_X12_timesTold S) 99 64)) 135 (((g_X12_timesTold S) 99 65).toInt.toNat) (f_X12_timesTold S)) 136 (((g_X12_timesTold S) 99 65).toInt.toNat) (S 99 3)) R _
          refine u_getE (v := (g_X12_timesTold S) 99 65) rfl v_tyM rfl ((z_sn (fun h => absurd h.1 (by decide))).trans ((z_sn (fun h => absurd h.1 (by decide))).trans (z_sn (fun h => absurd h.1 (by decide))))) ?_
          refine u_st rfl (fun _ => rfl) ?_
          refine u_st rfl (fun _ => rfl) ?_
          show u_P L xs n d m_X12_monthTold 159 [(2, .int (f_X12_timesTold S)), (1, .int (S 99 3)), (0, .ref 100)] [.int (((g_X12_timesTold S) 99 65) + (Int32.ofInt 1)), .ref 100] (z_s (z_s (z_s (g_X12_timesTold S) 134 (((g_X12_timesTold S) 99 65).toInt.toNat) ((g_X12_timesTold S) 99 64)) 135 (((g_X12_timesTold S) 99 65).toInt.toNat) (f_X12_timesTold S)) 136 (((g_X12_timesTold S) 99 65).toInt.toNat) (S 99 3)) R _
          refine u_put rfl v_tyM rfl ?_
          refine u_st rfl (fun _ => rfl) ?_
          refine u_st rfl (fun _ => rfl) ?_
          show u_P L xs n d m_X12_monthTold 164 [(2, .int (f_X12_timesTold S)), (1, .int (S 99 3)), (0, .ref 100)] [.int (Int32.ofInt 0), .ref 100] (z_s (z_s (z_s (z_s (g_X12_timesTold S) 134 (((g_X12_timesTold S) 99 65).toInt.toNat) ((g_X12_timesTold S) 99 64)) 135 (((g_X12_timesTold S) 99 65).toInt.toNat) (f_X12_timesTold S)) 136 (((g_X12_timesTold S) 99 65).toInt.toNat) (S 99 3)) 99 65 (((g_X12_timesTold S) 99 65) + (Int32.ofInt 1))) R _
          refine u_put rfl v_tyM rfl ?_
          refine u_st rfl (fun _ => rfl) ?_
          refine u_st rfl (fun _ => rfl) ?_
          show u_P L xs n d m_X12_monthTold 169 [(2, .int (f_X12_timesTold S)), (1, .int (S 99 3)), (0, .ref 100)] [.ref 100, .ref 100] (z_s (z_s (z_s (z_s (z_s (g_X12_timesTold S) 134 (((g_X12_timesTold S) 99 65).toInt.toNat) ((g_X12_timesTold S) 99 64)) 135 (((g_X12_timesTold S) 99 65).toInt.toNat) (f_X12_timesTold S)) 136 (((g_X12_timesTold S) 99 65).toInt.toNat) (S 99 3)) 99 65 (((g_X12_timesTold S) 99 65) + (Int32.ofInt 1))) 99 66 (Int32.ofInt 0)) R _
          refine u_getE (v := (g_X12_timesTold S) 99 3) rfl v_tyM rfl ((z_sn (fun h => absurd h.2 (by decide))).trans ((z_sn (fun h => absurd h.2 (by decide))).trans ((z_sn (fun h => absurd h.1 (by decide))).trans ((z_sn (fun h => absurd h.1 (by decide))).trans (z_sn (fun h => absurd h.1 (by decide))))))) ?_
          refine u_st rfl (fun _ => rfl) ?_
          refine u_st rfl (fun _ => rfl) ?_
          show u_P L xs n d m_X12_monthTold 174 [(2, .int (f_X12_timesTold S)), (1, .int (S 99 3)), (0, .ref 100)] [.int (((g_X12_timesTold S) 99 3) + (Int32.ofInt 1)), .ref 100] (z_s (z_s (z_s (z_s (z_s (g_X12_timesTold S) 134 (((g_X12_timesTold S) 99 65).toInt.toNat) ((g_X12_timesTold S) 99 64)) 135 (((g_X12_timesTold S) 99 65).toInt.toNat) (f_X12_timesTold S)) 136 (((g_X12_timesTold S) 99 65).toInt.toNat) (S 99 3)) 99 65 (((g_X12_timesTold S) 99 65) + (Int32.ofInt 1))) 99 66 (Int32.ofInt 0)) R _
          refine u_put rfl v_tyM rfl ?_
          show u_P L xs n d m_X12_monthTold 177 [(2, .int (f_X12_timesTold S)), (1, .int (S 99 3)), (0, .ref 100)] [] (z_s (z_s (z_s (z_s (z_s (z_s (g_X12_timesTold S) 134 (((g_X12_timesTold S) 99 65).toInt.toNat) ((g_X12_timesTold S) 99 64)) 135 (((g_X12_timesTold S) 99 65).toInt.toNat) (f_X12_timesTold S)) 136 (((g_X12_timesTold S) 99 65).toInt.toNat) (S 99 3)) 99 65 (((g_X12_timesTold S) 99 65) + (Int32.ofInt 1))) 99 66 (Int32.ofInt 0)) 99 3 (((g_X12_timesTold S) 99 3) + (Int32.ofInt 1))) R _
          exact u_ret rfl rfl ⟨rfl, rfl, hD⟩
        · have hD := hD.2 h13
          show u_P L xs n d m_X12_monthTold 118 [(2, .int (f_X12_timesTold S)), (1, .int (S 99 3)), (0, .ref 100)] [] (g_X12_timesTold S) R _
          exact u_ret rfl rfl ⟨rfl, rfl, hD⟩
      · have hD := hD.2 h12
        show u_P L xs n d m_X12_monthTold 102 [(2, .int (f_X12_timesTold S)), (1, .int (S 99 3)), (0, .ref 100)] [] (g_X12_timesTold S) R _
        refine u_st rfl (fun _ => rfl) ?_
        refine u_st rfl (fun _ => rfl) ?_
        refine u_st rfl (fun _ => rfl) ?_
        show u_P L xs n d m_X12_monthTold 105 [(2, .int (f_X12_timesTold S)), (1, .int (S 99 3)), (0, .ref 100)] [.ref 100, .int (Int32.ofInt 5), .ref 100] (g_X12_timesTold S) R _
        refine u_getE (v := (g_X12_timesTold S) 99 3) rfl v_tyM rfl rfl ?_
        show u_P L xs n d m_X12_monthTold 108 [(2, .int (f_X12_timesTold S)), (1, .int (S 99 3)), (0, .ref 100)] [.int ((g_X12_timesTold S) 99 3), .int (Int32.ofInt 5), .ref 100] (g_X12_timesTold S) R _
        refine u_cv (rest := []) rfl (by decide) mt_X12_wrongs v_tyM rfl rfl rfl (Nat.le_of_ble_eq_true rfl) (Nat.le_of_ble_eq_true rfl) (Nat.le_of_ble_eq_true rfl) (fun d' => c_X12_wrongs L xs n d' (Int32.ofInt 5) ((g_X12_timesTold S) 99 3) (g_X12_timesTold S) R) ?_
        rintro _ _ _ ⟨rfl, rfl, rfl⟩
        refine u_st rfl (fun _ => rfl) ?_
        show u_P L xs n d m_X12_monthTold 112 [(2, .int (f_X12_timesTold S)), (1, .int (S 99 3)), (0, .ref 100)] [.ref 100] (g_X12_wrongs (Int32.ofInt 5) ((g_X12_timesTold S) 99 3) (g_X12_timesTold S)) R _
        refine u_cv (rest := []) rfl (by decide) mt_X12_isGood v_tyM rfl rfl rfl (Nat.le_of_ble_eq_true rfl) (Nat.le_of_ble_eq_true rfl) (Nat.le_of_ble_eq_true rfl) (fun d' => c_X12_isGood L xs n d' (g_X12_wrongs (Int32.ofInt 5) ((g_X12_timesTold S) 99 3) (g_X12_timesTold S)) R) ?_
        rintro _ _ _ ⟨_, rfl, rfl, rfl, rfl⟩
        show u_P L xs n d m_X12_monthTold 115 [(2, .int (f_X12_timesTold S)), (1, .int (S 99 3)), (0, .ref 100)] [.int (f_X12_isGood (g_X12_wrongs (Int32.ofInt 5) ((g_X12_timesTold S) 99 3) (g_X12_timesTold S)))] (g_X12_wrongs (Int32.ofInt 5) ((g_X12_timesTold S) 99 3) (g_X12_timesTold S)) R _
        refine u_if_ne rfl (fun h17 => ?_) (fun h17 => ?_)
        · have hD := hD.1 h17
          show u_P L xs n d m_X12_monthTold 119 [(2, .int (f_X12_timesTold S)), (1, .int (S 99 3)), (0, .ref 100)] [] (g_X12_wrongs (Int32.ofInt 5) ((g_X12_timesTold S) 99 3) (g_X12_timesTold S)) R _
          refine u_st rfl (fun _ => rfl) ?_
          show u_P L xs n d m_X12_monthTold 120 [(2, .int (f_X12_timesTold S)), (1, .int (S 99 3)), (0, .ref 100)] [.ref 100] (g_X12_wrongs (Int32.ofInt 5) ((g_X12_timesTold S) 99 3) (g_X12_timesTold S)) R _
          refine u_getr rfl v_tyM rfl ?_
          refine u_st rfl (fun _ => rfl) ?_
          show u_P L xs n d m_X12_monthTold 124 [(2, .int (f_X12_timesTold S)), (1, .int (S 99 3)), (0, .ref 100)] [.ref 100, .ref 135] (g_X12_wrongs (Int32.ofInt 5) ((g_X12_timesTold S) 99 3) (g_X12_timesTold S)) R _
          refine u_getE (v := (g_X12_wrongs (Int32.ofInt 5) ((g_X12_timesTold S) 99 3) (g_X12_timesTold S)) 99 65) rfl v_tyM rfl rfl ?_
          refine u_st rfl (fun _ => rfl) ?_
          show u_P L xs n d m_X12_monthTold 128 [(2, .int (f_X12_timesTold S)), (1, .int (S 99 3)), (0, .ref 100)] [.ref 100, .int ((g_X12_wrongs (Int32.ofInt 5) ((g_X12_timesTold S) 99 3) (g_X12_timesTold S)) 99 65), .ref 135] (g_X12_wrongs (Int32.ofInt 5) ((g_X12_timesTold S) 99 3) (g_X12_timesTold S)) R _
          refine u_getE (v := (g_X12_wrongs (Int32.ofInt 5) ((g_X12_timesTold S) 99 3) (g_X12_timesTold S)) 99 64) rfl v_tyM rfl rfl ?_
          show u_P L xs n d m_X12_monthTold 131 [(2, .int (f_X12_timesTold S)), (1, .int (S 99 3)), (0, .ref 100)] [.int ((g_X12_wrongs (Int32.ofInt 5) ((g_X12_timesTold S) 99 3) (g_X12_timesTold S)) 99 64), .int ((g_X12_wrongs (Int32.ofInt 5) ((g_X12_timesTold S) 99 3) (g_X12_timesTold S)) 99 65), .ref 135] (g_X12_wrongs (Int32.ofInt 5) ((g_X12_timesTold S) 99 3) (g_X12_timesTold S)) R _
          refine u_iast rfl rfl (fun b181 b182 => ?_)
          have hD := hD b181 b182
          show u_P L xs n d m_X12_monthTold 132 [(2, .int (f_X12_timesTold S)), (1, .int (S 99 3)), (0, .ref 100)] [] (z_s (g_X12_wrongs (Int32.ofInt 5) ((g_X12_timesTold S) 99 3) (g_X12_timesTold S)) 134 (((g_X12_wrongs (Int32.ofInt 5) ((g_X12_timesTold S) 99 3) (g_X12_timesTold S)) 99 65).toInt.toNat) ((g_X12_wrongs (Int32.ofInt 5) ((g_X12_timesTold S) 99 3) (g_X12_timesTold S)) 99 64)) R _
          refine u_st rfl (fun _ => rfl) ?_
          show u_P L xs n d m_X12_monthTold 133 [(2, .int (f_X12_timesTold S)), (1, .int (S 99 3)), (0, .ref 100)] [.ref 100] (z_s (g_X12_wrongs (Int32.ofInt 5) ((g_X12_timesTold S) 99 3) (g_X12_timesTold S)) 134 (((g_X12_wrongs (Int32.ofInt 5) ((g_X12_timesTold S) 99 3) (g_X12_timesTold S)) 99 65).toInt.toNat) ((g_X12_wrongs (Int32.ofInt 5) ((g_X12_timesTold S) 99 3) (g_X12_timesTold S)) 99 64)) R _
          refine u_getr rfl v_tyM rfl ?_
          refine u_st rfl (fun _ => rfl) ?_
          show u_P L xs n d m_X12_monthTold 137 [(2, .int (f_X12_timesTold S)), (1, .int (S 99 3)), (0, .ref 100)] [.ref 100, .ref 136] (z_s (g_X12_wrongs (Int32.ofInt 5) ((g_X12_timesTold S) 99 3) (g_X12_timesTold S)) 134 (((g_X12_wrongs (Int32.ofInt 5) ((g_X12_timesTold S) 99 3) (g_X12_timesTold S)) 99 65).toInt.toNat) ((g_X12_wrongs (Int32.ofInt 5) ((g_X12_timesTold S) 99 3) (g_X12_timesTold S)) 99 64)) R _
          refine u_getE (v := (g_X12_wrongs (Int32.ofInt 5) ((g_X12_timesTold S) 99 3) (g_X12_timesTold S)) 99 65) rfl v_tyM rfl (z_sn (fun h => absurd h.1 (by decide))) ?_
          refine u_st rfl (fun _ => rfl) ?_
          show u_P L xs n d m_X12_monthTold 141 [(2, .int (f_X12_timesTold S)), (1, .int (S 99 3)), (0, .ref 100)] [.int (f_X12_timesTold S), .int ((g_X12_wrongs (Int32.ofInt 5) ((g_X12_timesTold S) 99 3) (g_X12_timesTold S)) 99 65), .ref 136] (z_s (g_X12_wrongs (Int32.ofInt 5) ((g_X12_timesTold S) 99 3) (g_X12_timesTold S)) 134 (((g_X12_wrongs (Int32.ofInt 5) ((g_X12_timesTold S) 99 3) (g_X12_timesTold S)) 99 65).toInt.toNat) ((g_X12_wrongs (Int32.ofInt 5) ((g_X12_timesTold S) 99 3) (g_X12_timesTold S)) 99 64)) R _
          refine u_iast rfl rfl (fun b191 b192 => ?_)
          have hD := hD b191 b192
          show u_P L xs n d m_X12_monthTold 142 [(2, .int (f_X12_timesTold S)), (1, .int (S 99 3)), (0, .ref 100)] [] (z_s (z_s (g_X12_wrongs (Int32.ofInt 5) ((g_X12_timesTold S) 99 3) (g_X12_timesTold S)) 134 (((g_X12_wrongs (Int32.ofInt 5) ((g_X12_timesTold S) 99 3) (g_X12_timesTold S)) 99 65).toInt.toNat) ((g_X12_wrongs (Int32.ofInt 5) ((g_X12_timesTold S) 99 3) (g_X12_timesTold S)) 99 64)) 135 (((g_X12_wrongs (Int32.ofInt 5) ((g_X12_timesTold S) 99 3) (g_X12_timesTold S)) 99 65).toInt.toNat) (f_X12_timesTold S)) R _
          refine u_st rfl (fun _ => rfl) ?_
          show u_P L xs n d m_X12_monthTold 143 [(2, .int (f_X12_timesTold S)), (1, .int (S 99 3)), (0, .ref 100)] [.ref 100] (z_s (z_s (g_X12_wrongs (Int32.ofInt 5) ((g_X12_timesTold S) 99 3) (g_X12_timesTold S)) 134 (((g_X12_wrongs (Int32.ofInt 5) ((g_X12_timesTold S) 99 3) (g_X12_timesTold S)) 99 65).toInt.toNat) ((g_X12_wrongs (Int32.ofInt 5) ((g_X12_timesTold S) 99 3) (g_X12_timesTold S)) 99 64)) 135 (((g_X12_wrongs (Int32.ofInt 5) ((g_X12_timesTold S) 99 3) (g_X12_timesTold S)) 99 65).toInt.toNat) (f_X12_timesTold S)) R _
          refine u_getr rfl v_tyM rfl ?_
          refine u_st rfl (fun _ => rfl) ?_
          show u_P L xs n d m_X12_monthTold 147 [(2, .int (f_X12_timesTold S)), (1, .int (S 99 3)), (0, .ref 100)] [.ref 100, .ref 137] (z_s (z_s (g_X12_wrongs (Int32.ofInt 5) ((g_X12_timesTold S) 99 3) (g_X12_timesTold S)) 134 (((g_X12_wrongs (Int32.ofInt 5) ((g_X12_timesTold S) 99 3) (g_X12_timesTold S)) 99 65).toInt.toNat) ((g_X12_wrongs (Int32.ofInt 5) ((g_X12_timesTold S) 99 3) (g_X12_timesTold S)) 99 64)) 135 (((g_X12_wrongs (Int32.ofInt 5) ((g_X12_timesTold S) 99 3) (g_X12_timesTold S)) 99 65).toInt.toNat) (f_X12_timesTold S)) R _
          refine u_getE (v := (g_X12_wrongs (Int32.ofInt 5) ((g_X12_timesTold S) 99 3) (g_X12_timesTold S)) 99 65) rfl v_tyM rfl ((z_sn (fun h => absurd h.1 (by decide))).trans (z_sn (fun h => absurd h.1 (by decide)))) ?_
          refine u_st rfl (fun _ => rfl) ?_
          show u_P L xs n d m_X12_monthTold 151 [(2, .int (f_X12_timesTold S)), (1, .int (S 99 3)), (0, .ref 100)] [.int (S 99 3), .int ((g_X12_wrongs (Int32.ofInt 5) ((g_X12_timesTold S) 99 3) (g_X12_timesTold S)) 99 65), .ref 137] (z_s (z_s (g_X12_wrongs (Int32.ofInt 5) ((g_X12_timesTold S) 99 3) (g_X12_timesTold S)) 134 (((g_X12_wrongs (Int32.ofInt 5) ((g_X12_timesTold S) 99 3) (g_X12_timesTold S)) 99 65).toInt.toNat) ((g_X12_wrongs (Int32.ofInt 5) ((g_X12_timesTold S) 99 3) (g_X12_timesTold S)) 99 64)) 135 (((g_X12_wrongs (Int32.ofInt 5) ((g_X12_timesTold S) 99 3) (g_X12_timesTold S)) 99 65).toInt.toNat) (f_X12_timesTold S)) R _
          refine u_iast rfl rfl (fun b201 b202 => ?_)
          have hD := hD b201 b202
          show u_P L xs n d m_X12_monthTold 152 [(2, .int (f_X12_timesTold S)), (1, .int (S 99 3)), (0, .ref 100)] [] (z_s (z_s (z_s (g_X12_wrongs (Int32.ofInt 5) ((g_X12_timesTold S) 99 3) (g_X12_timesTold S)) 134 (((g_X12_wrongs (Int32.ofInt 5) ((g_X12_timesTold S) 99 3) (g_X12_timesTold S)) 99 65).toInt.toNat) ((g_X12_wrongs (Int32.ofInt 5) ((g_X12_timesTold S) 99 3) (g_X12_timesTold S)) 99 64)) 135 (((g_X12_wrongs (Int32.ofInt 5) ((g_X12_timesTold S) 99 3) (g_X12_timesTold S)) 99 65).toInt.toNat) (f_X12_timesTold S)) 136 (((g_X12_wrongs (Int32.ofInt 5) ((g_X12_timesTold S) 99 3) (g_X12_timesTold S)) 99 65).toInt.toNat) (S 99 3)) R _
          refine u_st rfl (fun _ => rfl) ?_
          refine u_st rfl (fun _ => rfl) ?_
          show u_P L xs n d m_X12_monthTold 154 [(2, .int (f_X12_timesTold S)), (1, .int (S 99 3)), (0, .ref 100)] [.ref 100, .ref 100] (z_s (z_s (z_s (g_X12_wrongs (Int32.ofInt 5) ((g_X12_timesTold S) 99 3) (g_X12_timesTold S)) 134 (((g_X12_wrongs (Int32.ofInt 5) ((g_X12_timesTold S) 99 3) (g_X12_timesTold S)) 99 65).toInt.toNat) ((g_X12_wrongs (Int32.ofInt 5) ((g_X12_timesTold S) 99 3) (g_X12_timesTold S)) 99 64)) 135 (((g_X12_wrongs (Int32.ofInt 5) ((g_X12_timesTold S) 99 3) (g_X12_timesTold S)) 99 65).toInt.toNat) (f_X12_timesTold S)) 136 (((g_X12_wrongs (Int32.ofInt 5) ((g_X12_timesTold S) 99 3) (g_X12_timesTold S)) 99 65).toInt.toNat) (S 99 3)) R _
          refine u_getE (v := (g_X12_wrongs (Int32.ofInt 5) ((g_X12_timesTold S) 99 3) (g_X12_timesTold S)) 99 65) rfl v_tyM rfl ((z_sn (fun h => absurd h.1 (by decide))).trans ((z_sn (fun h => absurd h.1 (by decide))).trans (z_sn (fun h => absurd h.1 (by decide))))) ?_
          refine u_st rfl (fun _ => rfl) ?_
          refine u_st rfl (fun _ => rfl) ?_
          show u_P L xs n d m_X12_monthTold 159 [(2, .int (f_X12_timesTold S)), (1, .int (S 99 3)), (0, .ref 100)] [.int (((g_X12_wrongs (Int32.ofInt 5) ((g_X12_timesTold S) 99 3) (g_X12_timesTold S)) 99 65) + (Int32.ofInt 1)), .ref 100] (z_s (z_s (z_s (g_X12_wrongs (Int32.ofInt 5) ((g_X12_timesTold S) 99 3) (g_X12_timesTold S)) 134 (((g_X12_wrongs (Int32.ofInt 5) ((g_X12_timesTold S) 99 3) (g_X12_timesTold S)) 99 65).toInt.toNat) ((g_X12_wrongs (Int32.ofInt 5) ((g_X12_timesTold S) 99 3) (g_X12_timesTold S)) 99 64)) 135 (((g_X12_wrongs (Int32.ofInt 5) ((g_X12_timesTold S) 99 3) (g_X12_timesTold S)) 99 65).toInt.toNat) (f_X12_timesTold S)) 136 (((g_X12_wrongs (Int32.ofInt 5) ((g_X12_timesTold S) 99 3) (g_X12_timesTold S)) 99 65).toInt.toNat) (S 99 3)) R _
          refine u_put rfl v_tyM rfl ?_
          refine u_st rfl (fun _ => rfl) ?_
          refine u_st rfl (fun _ => rfl) ?_
          show u_P L xs n d m_X12_monthTold 164 [(2, .int (f_X12_timesTold S)), (1, .int (S 99 3)), (0, .ref 100)] [.int (Int32.ofInt 0), .ref 100] (z_s (z_s (z_s (z_s (g_X12_wrongs (Int32.ofInt 5) ((g_X12_timesTold S) 99 3) (g_X12_timesTold S)) 134 (((g_X12_wrongs (Int32.ofInt 5) ((g_X12_timesTold S) 99 3) (g_X12_timesTold S)) 99 65).toInt.toNat) ((g_X12_wrongs (Int32.ofInt 5) ((g_X12_timesTold S) 99 3) (g_X12_timesTold S)) 99 64)) 135 (((g_X12_wrongs (Int32.ofInt 5) ((g_X12_timesTold S) 99 3) (g_X12_timesTold S)) 99 65).toInt.toNat) (f_X12_timesTold S)) 136 (((g_X12_wrongs (Int32.ofInt 5) ((g_X12_timesTold S) 99 3) (g_X12_timesTold S)) 99 65).toInt.toNat) (S 99 3)) 99 65 (((g_X12_wrongs (Int32.ofInt 5) ((g_X12_timesTold S) 99 3) (g_X12_timesTold S)) 99 65) + (Int32.ofInt 1))) R _
          refine u_put rfl v_tyM rfl ?_
          refine u_st rfl (fun _ => rfl) ?_
          refine u_st rfl (fun _ => rfl) ?_
          show u_P L xs n d m_X12_monthTold 169 [(2, .int (f_X12_timesTold S)), (1, .int (S 99 3)), (0, .ref 100)] [.ref 100, .ref 100] (z_s (z_s (z_s (z_s (z_s (g_X12_wrongs (Int32.ofInt 5) ((g_X12_timesTold S) 99 3) (g_X12_timesTold S)) 134 (((g_X12_wrongs (Int32.ofInt 5) ((g_X12_timesTold S) 99 3) (g_X12_timesTold S)) 99 65).toInt.toNat) ((g_X12_wrongs (Int32.ofInt 5) ((g_X12_timesTold S) 99 3) (g_X12_timesTold S)) 99 64)) 135 (((g_X12_wrongs (Int32.ofInt 5) ((g_X12_timesTold S) 99 3) (g_X12_timesTold S)) 99 65).toInt.toNat) (f_X12_timesTold S)) 136 (((g_X12_wrongs (Int32.ofInt 5) ((g_X12_timesTold S) 99 3) (g_X12_timesTold S)) 99 65).toInt.toNat) (S 99 3)) 99 65 (((g_X12_wrongs (Int32.ofInt 5) ((g_X12_timesTold S) 99 3) (g_X12_timesTold S)) 99 65) + (Int32.ofInt 1))) 99 66 (Int32.ofInt 0)) R _
          refine u_getE (v := (g_X12_wrongs (Int32.ofInt 5) ((g_X12_timesTold S) 99 3) (g_X12_timesTold S)) 99 3) rfl v_tyM rfl ((z_sn (fun h => absurd h.2 (by decide))).trans ((z_sn (fun h => absurd h.2 (by decide))).trans ((z_sn (fun h => absurd h.1 (by decide))).trans ((z_sn (fun h => absurd h.1 (by decide))).trans (z_sn (fun h => absurd h.1 (by decide))))))) ?_
          refine u_st rfl (fun _ => rfl) ?_
          refine u_st rfl (fun _ => rfl) ?_
          show u_P L xs n d m_X12_monthTold 174 [(2, .int (f_X12_timesTold S)), (1, .int (S 99 3)), (0, .ref 100)] [.int (((g_X12_wrongs (Int32.ofInt 5) ((g_X12_timesTold S) 99 3) (g_X12_timesTold S)) 99 3) + (Int32.ofInt 1)), .ref 100] (z_s (z_s (z_s (z_s (z_s (g_X12_wrongs (Int32.ofInt 5) ((g_X12_timesTold S) 99 3) (g_X12_timesTold S)) 134 (((g_X12_wrongs (Int32.ofInt 5) ((g_X12_timesTold S) 99 3) (g_X12_timesTold S)) 99 65).toInt.toNat) ((g_X12_wrongs (Int32.ofInt 5) ((g_X12_timesTold S) 99 3) (g_X12_timesTold S)) 99 64)) 135 (((g_X12_wrongs (Int32.ofInt 5) ((g_X12_timesTold S) 99 3) (g_X12_timesTold S)) 99 65).toInt.toNat) (f_X12_timesTold S)) 136 (((g_X12_wrongs (Int32.ofInt 5) ((g_X12_timesTold S) 99 3) (g_X12_timesTold S)) 99 65).toInt.toNat) (S 99 3)) 99 65 (((g_X12_wrongs (Int32.ofInt 5) ((g_X12_timesTold S) 99 3) (g_X12_timesTold S)) 99 65) + (Int32.ofInt 1))) 99 66 (Int32.ofInt 0)) R _
          refine u_put rfl v_tyM rfl ?_
          show u_P L xs n d m_X12_monthTold 177 [(2, .int (f_X12_timesTold S)), (1, .int (S 99 3)), (0, .ref 100)] [] (z_s (z_s (z_s (z_s (z_s (z_s (g_X12_wrongs (Int32.ofInt 5) ((g_X12_timesTold S) 99 3) (g_X12_timesTold S)) 134 (((g_X12_wrongs (Int32.ofInt 5) ((g_X12_timesTold S) 99 3) (g_X12_timesTold S)) 99 65).toInt.toNat) ((g_X12_wrongs (Int32.ofInt 5) ((g_X12_timesTold S) 99 3) (g_X12_timesTold S)) 99 64)) 135 (((g_X12_wrongs (Int32.ofInt 5) ((g_X12_timesTold S) 99 3) (g_X12_timesTold S)) 99 65).toInt.toNat) (f_X12_timesTold S)) 136 (((g_X12_wrongs (Int32.ofInt 5) ((g_X12_timesTold S) 99 3) (g_X12_timesTold S)) 99 65).toInt.toNat) (S 99 3)) 99 65 (((g_X12_wrongs (Int32.ofInt 5) ((g_X12_timesTold S) 99 3) (g_X12_timesTold S)) 99 65) + (Int32.ofInt 1))) 99 66 (Int32.ofInt 0)) 99 3 (((g_X12_wrongs (Int32.ofInt 5) ((g_X12_timesTold S) 99 3) (g_X12_timesTold S)) 99 3) + (Int32.ofInt 1))) R _
          exact u_ret rfl rfl ⟨rfl, rfl, hD⟩
        · have hD := hD.2 h17
          show u_P L xs n d m_X12_monthTold 118 [(2, .int (f_X12_timesTold S)), (1, .int (S 99 3)), (0, .ref 100)] [] (g_X12_wrongs (Int32.ofInt 5) ((g_X12_timesTold S) 99 3) (g_X12_timesTold S)) R _
          exact u_ret rfl rfl ⟨rfl, rfl, hD⟩
  · have hD := hD.2 h1
    show u_P L xs n d m_X12_monthTold 14 [(1, .int (S 99 3)), (0, .ref 100)] [] S R _
    refine u_st rfl (fun _ => rfl) ?_
    show u_P L xs n d m_X12_monthTold 15 [(1, .int (S 99 3)), (0, .ref 100)] [.ref 100] S R _
    refine u_getE (v := S 99 65) rfl v_tyM rfl rfl ?_
    show u_P L xs n d m_X12_monthTold 18 [(1, .int (S 99 3)), (0, .ref 100)] [.int (S 99 65)] S R _
    refine u_if_le rfl (fun h21 => ?_) (fun h21 => ?_)
    · have hD := hD.1 h21
      show u_P L xs n d m_X12_monthTold 80 [(1, .int (S 99 3)), (0, .ref 100)] [] S R _
      refine u_st rfl (fun _ => rfl) ?_
      show u_P L xs n d m_X12_monthTold 81 [(1, .int (S 99 3)), (0, .ref 100)] [.ref 100] S R _
      refine u_cv (rest := []) rfl (by decide) mt_X12_timesTold v_tyM rfl rfl rfl (Nat.le_of_ble_eq_true rfl) (Nat.le_of_ble_eq_true rfl) (Nat.le_of_ble_eq_true rfl) (fun d' => c_X12_timesTold L xs n d' S R) ?_
      rintro _ _ _ ⟨_, rfl, rfl, rfl, rfl⟩
      refine u_st rfl (fun _ => rfl) ?_
      refine u_st rfl (fun _ => rfl) ?_
      show u_P L xs n d m_X12_monthTold 86 [(2, .int (f_X12_timesTold S)), (1, .int (S 99 3)), (0, .ref 100)] [.ref 100] (g_X12_timesTold S) R _
      refine u_cv (rest := []) rfl (by decide) mt_X12_here v_tyM rfl rfl rfl (Nat.le_of_ble_eq_true rfl) (Nat.le_of_ble_eq_true rfl) (Nat.le_of_ble_eq_true rfl) (fun d' => c_X12_here L xs n d' (g_X12_timesTold S) R) ?_
      rintro _ _ _ ⟨_, rfl, rfl, rfl, rfl⟩
      refine u_st rfl (fun _ => rfl) ?_
      show u_P L xs n d m_X12_monthTold 91 [(2, .int (f_X12_timesTold S)), (1, .int (S 99 3)), (0, .ref 100)] [.int (Int32.ofInt 40), .int (f_X12_here (g_X12_timesTold S))] (g_X12_timesTold S) R _
      refine u_ic_ne rfl (fun h22 => ?_) (fun h22 => ?_)
      · have hD := hD.1 h22
        show u_P L xs n d m_X12_monthTold 178 [(2, .int (f_X12_timesTold S)), (1, .int (S 99 3)), (0, .ref 100)] [] (g_X12_timesTold S) R _
        refine u_st rfl (fun _ => rfl) ?_
        show u_P L xs n d m_X12_monthTold 179 [(2, .int (f_X12_timesTold S)), (1, .int (S 99 3)), (0, .ref 100)] [.ref 100] (g_X12_timesTold S) R _
        refine u_cv (rest := []) rfl (by decide) mt_X12_here v_tyM rfl rfl rfl (Nat.le_of_ble_eq_true rfl) (Nat.le_of_ble_eq_true rfl) (Nat.le_of_ble_eq_true rfl) (fun d' => c_X12_here L xs n d' (g_X12_timesTold S) R) ?_
        rintro _ _ _ ⟨_, rfl, rfl, rfl, rfl⟩
        refine u_st rfl (fun _ => rfl) ?_
        show u_P L xs n d m_X12_monthTold 184 [(2, .int (f_X12_timesTold S)), (1, .int (S 99 3)), (0, .ref 100)] [.int (Int32.ofInt 46), .int (f_X12_here (g_X12_timesTold S))] (g_X12_timesTold S) R _
        refine u_ic_eq rfl (fun h23 => ?_) (fun h23 => ?_)
        · have hD := hD.1 h23
          show u_P L xs n d m_X12_monthTold 216 [(2, .int (f_X12_timesTold S)), (1, .int (S 99 3)), (0, .ref 100)] [] (g_X12_timesTold S) R _
          refine u_st rfl (fun _ => rfl) ?_
          show u_P L xs n d m_X12_monthTold 217 [(2, .int (f_X12_timesTold S)), (1, .int (S 99 3)), (0, .ref 100)] [.ref 100] (g_X12_timesTold S) R _
          refine u_getE (v := (g_X12_timesTold S) 99 64) rfl v_tyM rfl rfl ?_
          refine u_st rfl (fun _ => rfl) ?_
          refine u_st rfl (fun _ => rfl) ?_
          refine u_st rfl (fun _ => rfl) ?_
          show u_P L xs n d m_X12_monthTold 224 [(2, .int (f_X12_timesTold S)), (1, .int (S 99 3)), (0, .ref 100)] [.int (Int32.ofInt 48), .int (((g_X12_timesTold S) 99 64) + (f_X12_timesTold S))] (g_X12_timesTold S) R _
          refine u_ic_le rfl (fun h24 => ?_) (fun h24 => ?_)
          · have hD := hD.1 h24
            show u_P L xs n d m_X12_monthTold 234 [(2, .int (f_X12_timesTold S)), (1, .int (S 99 3)), (0, .ref 100)] [] (g_X12_timesTold S) R _
            refine u_st rfl (fun _ => rfl) ?_
            show u_P L xs n d m_X12_monthTold 235 [(2, .int (f_X12_timesTold S)), (1, .int (S 99 3)), (0, .ref 100)] [.ref 100] (g_X12_timesTold S) R _
            refine u_cv (rest := []) rfl (by decide) mt_X12_isGood v_tyM rfl rfl rfl (Nat.le_of_ble_eq_true rfl) (Nat.le_of_ble_eq_true rfl) (Nat.le_of_ble_eq_true rfl) (fun d' => c_X12_isGood L xs n d' (g_X12_timesTold S) R) ?_
            rintro _ _ _ ⟨_, rfl, rfl, rfl, rfl⟩
            show u_P L xs n d m_X12_monthTold 238 [(2, .int (f_X12_timesTold S)), (1, .int (S 99 3)), (0, .ref 100)] [.int (f_X12_isGood (g_X12_timesTold S))] (g_X12_timesTold S) R _
            refine u_if_ne rfl (fun h25 => ?_) (fun h25 => ?_)
            · have hD := hD.1 h25
              show u_P L xs n d m_X12_monthTold 242 [(2, .int (f_X12_timesTold S)), (1, .int (S 99 3)), (0, .ref 100)] [] (g_X12_timesTold S) R _
              refine u_st rfl (fun _ => rfl) ?_
              refine u_st rfl (fun _ => rfl) ?_
              refine u_lc (b := [(0, .ref 100), (1, .int (S 99 3)), (2, .int (f_X12_timesTold S)), (3, .int (Int32.ofInt 0))]) (show ([3, 2, 1, 0] : List Nat).Nodup by decide) (show ([0, 1, 2, 3] : List Nat).Nodup by decide) (fun i => match i with | 0 => rfl | 1 => rfl | 2 => rfl | 3 => rfl | _ + 4 => rfl) ?_
              exact (hd_X12_monthTold L xs H244 K k244 n) d (S 99 3) (f_X12_timesTold S) (Int32.ofInt 0) (g_X12_timesTold S) hD
            · have hD := hD.2 h25
              show u_P L xs n d m_X12_monthTold 241 [(2, .int (f_X12_timesTold S)), (1, .int (S 99 3)), (0, .ref 100)] [] (g_X12_timesTold S) R _
              exact u_ret rfl rfl ⟨rfl, rfl, hD⟩
          · have hD := hD.2 h24
            show u_P L xs n d m_X12_monthTold 227 [(2, .int (f_X12_timesTold S)), (1, .int (S 99 3)), (0, .ref 100)] [] (g_X12_timesTold S) R _
            refine u_st rfl (fun _ => rfl) ?_
            refine u_st rfl (fun _ => rfl) ?_
            refine u_st rfl (fun _ => rfl) ?_
            show u_P L xs n d m_X12_monthTold 231 [(2, .int (f_X12_timesTold S)), (1, .int (S 99 3)), (0, .ref 100)] [.int (S 99 3), .int (Int32.ofInt 6), .ref 100] (g_X12_timesTold S) R _
            refine u_cv (rest := []) rfl (by decide) mt_X12_wrongs v_tyM rfl rfl rfl (Nat.le_of_ble_eq_true rfl) (Nat.le_of_ble_eq_true rfl) (Nat.le_of_ble_eq_true rfl) (fun d' => c_X12_wrongs L xs n d' (Int32.ofInt 6) (S 99 3) (g_X12_timesTold S) R) ?_
            rintro _ _ _ ⟨rfl, rfl, rfl⟩
            refine u_st rfl (fun _ => rfl) ?_
            show u_P L xs n d m_X12_monthTold 235 [(2, .int (f_X12_timesTold S)), (1, .int (S 99 3)), (0, .ref 100)] [.ref 100] (g_X12_wrongs (Int32.ofInt 6) (S 99 3) (g_X12_timesTold S)) R _
            refine u_cv (rest := []) rfl (by decide) mt_X12_isGood v_tyM rfl rfl rfl (Nat.le_of_ble_eq_true rfl) (Nat.le_of_ble_eq_true rfl) (Nat.le_of_ble_eq_true rfl) (fun d' => c_X12_isGood L xs n d' (g_X12_wrongs (Int32.ofInt 6) (S 99 3) (g_X12_timesTold S)) R) ?_
            rintro _ _ _ ⟨_, rfl, rfl, rfl, rfl⟩
            show u_P L xs n d m_X12_monthTold 238 [(2, .int (f_X12_timesTold S)), (1, .int (S 99 3)), (0, .ref 100)] [.int (f_X12_isGood (g_X12_wrongs (Int32.ofInt 6) (S 99 3) (g_X12_timesTold S)))] (g_X12_wrongs (Int32.ofInt 6) (S 99 3) (g_X12_timesTold S)) R _
            refine u_if_ne rfl (fun h26 => ?_) (fun h26 => ?_)
            · have hD := hD.1 h26
              show u_P L xs n d m_X12_monthTold 242 [(2, .int (f_X12_timesTold S)), (1, .int (S 99 3)), (0, .ref 100)] [] (g_X12_wrongs (Int32.ofInt 6) (S 99 3) (g_X12_timesTold S)) R _
              refine u_st rfl (fun _ => rfl) ?_
              refine u_st rfl (fun _ => rfl) ?_
              refine u_lc (b := [(0, .ref 100), (1, .int (S 99 3)), (2, .int (f_X12_timesTold S)), (3, .int (Int32.ofInt 0))]) (show ([3, 2, 1, 0] : List Nat).Nodup by decide) (show ([0, 1, 2, 3] : List Nat).Nodup by decide) (fun i => match i with | 0 => rfl | 1 => rfl | 2 => rfl | 3 => rfl | _ + 4 => rfl) ?_
              exact (hd_X12_monthTold L xs H244 K k244 n) d (S 99 3) (f_X12_timesTold S) (Int32.ofInt 0) (g_X12_wrongs (Int32.ofInt 6) (S 99 3) (g_X12_timesTold S)) hD
            · have hD := hD.2 h26
              show u_P L xs n d m_X12_monthTold 241 [(2, .int (f_X12_timesTold S)), (1, .int (S 99 3)), (0, .ref 100)] [] (g_X12_wrongs (Int32.ofInt 6) (S 99 3) (g_X12_timesTold S)) R _
              exact u_ret rfl rfl ⟨rfl, rfl, hD⟩
        · have hD := hD.2 h23
          show u_P L xs n d m_X12_monthTold 187 [(2, .int (f_X12_timesTold S)), (1, .int (S 99 3)), (0, .ref 100)] [] (g_X12_timesTold S) R _
          refine u_st rfl (fun _ => rfl) ?_
          show u_P L xs n d m_X12_monthTold 188 [(2, .int (f_X12_timesTold S)), (1, .int (S 99 3)), (0, .ref 100)] [.ref 100] (g_X12_timesTold S) R _
          refine u_cv (rest := []) rfl (by decide) mt_X12_here v_tyM rfl rfl rfl (Nat.le_of_ble_eq_true rfl) (Nat.le_of_ble_eq_true rfl) (Nat.le_of_ble_eq_true rfl) (fun d' => c_X12_here L xs n d' (g_X12_timesTold S) R) ?_
          rintro _ _ _ ⟨_, rfl, rfl, rfl, rfl⟩
          refine u_st rfl (fun _ => rfl) ?_
          refine u_st rfl (fun _ => rfl) ?_
          refine u_st rfl (fun _ => rfl) ?_
          show u_P L xs n d m_X12_monthTold 198 [(2, .int (f_X12_timesTold S)), (1, .int (S 99 3)), (0, .ref 100)] [.long (Int64.ofInt 74), .long (Int64.ofInt 65), .long ((f_X12_here (g_X12_timesTold S)).toInt64)] (g_X12_timesTold S) R _
          refine u_cs (ac := [.long ((f_X12_here (g_X12_timesTold S)).toInt64), .long (Int64.ofInt 65), .long (Int64.ofInt 74)]) (rest := []) rfl (by decide) mt_X12_lies (fun _ => rfl) (Nat.le_of_ble_eq_true rfl) (Nat.le_of_ble_eq_true rfl) (fun d' => z_liesC L xs n d' ((f_X12_here (g_X12_timesTold S))) (Int64.ofInt 65) (Int64.ofInt 74) (lo := 65) (hi := 74) rfl rfl (g_X12_timesTold S) R) ?_
          rintro _ _ _ ⟨_, rfl, rfl, rfl, rfl⟩
          show u_P L xs n d m_X12_monthTold 201 [(2, .int (f_X12_timesTold S)), (1, .int (S 99 3)), (0, .ref 100)] [.int (z_in ((f_X12_here (g_X12_timesTold S))) 65 74)] (g_X12_timesTold S) R _
          refine u_if_ne rfl (fun h27 => ?_) (fun h27 => ?_)
          · have hD := hD.1 h27
            show u_P L xs n d m_X12_monthTold 216 [(2, .int (f_X12_timesTold S)), (1, .int (S 99 3)), (0, .ref 100)] [] (g_X12_timesTold S) R _
            refine u_st rfl (fun _ => rfl) ?_
            show u_P L xs n d m_X12_monthTold 217 [(2, .int (f_X12_timesTold S)), (1, .int (S 99 3)), (0, .ref 100)] [.ref 100] (g_X12_timesTold S) R _
            refine u_getE (v := (g_X12_timesTold S) 99 64) rfl v_tyM rfl rfl ?_
            refine u_st rfl (fun _ => rfl) ?_
            refine u_st rfl (fun _ => rfl) ?_
            refine u_st rfl (fun _ => rfl) ?_
            show u_P L xs n d m_X12_monthTold 224 [(2, .int (f_X12_timesTold S)), (1, .int (S 99 3)), (0, .ref 100)] [.int (Int32.ofInt 48), .int (((g_X12_timesTold S) 99 64) + (f_X12_timesTold S))] (g_X12_timesTold S) R _
            refine u_ic_le rfl (fun h28 => ?_) (fun h28 => ?_)
            · have hD := hD.1 h28
              show u_P L xs n d m_X12_monthTold 234 [(2, .int (f_X12_timesTold S)), (1, .int (S 99 3)), (0, .ref 100)] [] (g_X12_timesTold S) R _
              refine u_st rfl (fun _ => rfl) ?_
              show u_P L xs n d m_X12_monthTold 235 [(2, .int (f_X12_timesTold S)), (1, .int (S 99 3)), (0, .ref 100)] [.ref 100] (g_X12_timesTold S) R _
              refine u_cv (rest := []) rfl (by decide) mt_X12_isGood v_tyM rfl rfl rfl (Nat.le_of_ble_eq_true rfl) (Nat.le_of_ble_eq_true rfl) (Nat.le_of_ble_eq_true rfl) (fun d' => c_X12_isGood L xs n d' (g_X12_timesTold S) R) ?_
              rintro _ _ _ ⟨_, rfl, rfl, rfl, rfl⟩
              show u_P L xs n d m_X12_monthTold 238 [(2, .int (f_X12_timesTold S)), (1, .int (S 99 3)), (0, .ref 100)] [.int (f_X12_isGood (g_X12_timesTold S))] (g_X12_timesTold S) R _
              refine u_if_ne rfl (fun h29 => ?_) (fun h29 => ?_)
              · have hD := hD.1 h29
                show u_P L xs n d m_X12_monthTold 242 [(2, .int (f_X12_timesTold S)), (1, .int (S 99 3)), (0, .ref 100)] [] (g_X12_timesTold S) R _
                refine u_st rfl (fun _ => rfl) ?_
                refine u_st rfl (fun _ => rfl) ?_
                refine u_lc (b := [(0, .ref 100), (1, .int (S 99 3)), (2, .int (f_X12_timesTold S)), (3, .int (Int32.ofInt 0))]) (show ([3, 2, 1, 0] : List Nat).Nodup by decide) (show ([0, 1, 2, 3] : List Nat).Nodup by decide) (fun i => match i with | 0 => rfl | 1 => rfl | 2 => rfl | 3 => rfl | _ + 4 => rfl) ?_
                exact (hd_X12_monthTold L xs H244 K k244 n) d (S 99 3) (f_X12_timesTold S) (Int32.ofInt 0) (g_X12_timesTold S) hD
              · have hD := hD.2 h29
                show u_P L xs n d m_X12_monthTold 241 [(2, .int (f_X12_timesTold S)), (1, .int (S 99 3)), (0, .ref 100)] [] (g_X12_timesTold S) R _
                exact u_ret rfl rfl ⟨rfl, rfl, hD⟩
            · have hD := hD.2 h28
              show u_P L xs n d m_X12_monthTold 227 [(2, .int (f_X12_timesTold S)), (1, .int (S 99 3)), (0, .ref 100)] [] (g_X12_timesTold S) R _
              refine u_st rfl (fun _ => rfl) ?_
              refine u_st rfl (fun _ => rfl) ?_
              refine u_st rfl (fun _ => rfl) ?_
              show u_P L xs n d m_X12_monthTold 231 [(2, .int (f_X12_timesTold S)), (1, .int (S 99 3)), (0, .ref 100)] [.int (S 99 3), .int (Int32.ofInt 6), .ref 100] (g_X12_timesTold S) R _
              refine u_cv (rest := []) rfl (by decide) mt_X12_wrongs v_tyM rfl rfl rfl (Nat.le_of_ble_eq_true rfl) (Nat.le_of_ble_eq_true rfl) (Nat.le_of_ble_eq_true rfl) (fun d' => c_X12_wrongs L xs n d' (Int32.ofInt 6) (S 99 3) (g_X12_timesTold S) R) ?_
              rintro _ _ _ ⟨rfl, rfl, rfl⟩
              refine u_st rfl (fun _ => rfl) ?_
              show u_P L xs n d m_X12_monthTold 235 [(2, .int (f_X12_timesTold S)), (1, .int (S 99 3)), (0, .ref 100)] [.ref 100] (g_X12_wrongs (Int32.ofInt 6) (S 99 3) (g_X12_timesTold S)) R _
              refine u_cv (rest := []) rfl (by decide) mt_X12_isGood v_tyM rfl rfl rfl (Nat.le_of_ble_eq_true rfl) (Nat.le_of_ble_eq_true rfl) (Nat.le_of_ble_eq_true rfl) (fun d' => c_X12_isGood L xs n d' (g_X12_wrongs (Int32.ofInt 6) (S 99 3) (g_X12_timesTold S)) R) ?_
              rintro _ _ _ ⟨_, rfl, rfl, rfl, rfl⟩
              show u_P L xs n d m_X12_monthTold 238 [(2, .int (f_X12_timesTold S)), (1, .int (S 99 3)), (0, .ref 100)] [.int (f_X12_isGood (g_X12_wrongs (Int32.ofInt 6) (S 99 3) (g_X12_timesTold S)))] (g_X12_wrongs (Int32.ofInt 6) (S 99 3) (g_X12_timesTold S)) R _
              refine u_if_ne rfl (fun h30 => ?_) (fun h30 => ?_)
              · have hD := hD.1 h30
                show u_P L xs n d m_X12_monthTold 242 [(2, .int (f_X12_timesTold S)), (1, .int (S 99 3)), (0, .ref 100)] [] (g_X12_wrongs (Int32.ofInt 6) (S 99 3) (g_X12_timesTold S)) R _
                refine u_st rfl (fun _ => rfl) ?_
                refine u_st rfl (fun _ => rfl) ?_
                refine u_lc (b := [(0, .ref 100), (1, .int (S 99 3)), (2, .int (f_X12_timesTold S)), (3, .int (Int32.ofInt 0))]) (show ([3, 2, 1, 0] : List Nat).Nodup by decide) (show ([0, 1, 2, 3] : List Nat).Nodup by decide) (fun i => match i with | 0 => rfl | 1 => rfl | 2 => rfl | 3 => rfl | _ + 4 => rfl) ?_
                exact (hd_X12_monthTold L xs H244 K k244 n) d (S 99 3) (f_X12_timesTold S) (Int32.ofInt 0) (g_X12_wrongs (Int32.ofInt 6) (S 99 3) (g_X12_timesTold S)) hD
              · have hD := hD.2 h30
                show u_P L xs n d m_X12_monthTold 241 [(2, .int (f_X12_timesTold S)), (1, .int (S 99 3)), (0, .ref 100)] [] (g_X12_wrongs (Int32.ofInt 6) (S 99 3) (g_X12_timesTold S)) R _
                exact u_ret rfl rfl ⟨rfl, rfl, hD⟩
          · have hD := hD.2 h27
            show u_P L xs n d m_X12_monthTold 204 [(2, .int (f_X12_timesTold S)), (1, .int (S 99 3)), (0, .ref 100)] [] (g_X12_timesTold S) R _
            refine u_st rfl (fun _ => rfl) ?_
            refine u_st rfl (fun _ => rfl) ?_
            refine u_st rfl (fun _ => rfl) ?_
            show u_P L xs n d m_X12_monthTold 207 [(2, .int (f_X12_timesTold S)), (1, .int (S 99 3)), (0, .ref 100)] [.ref 100, .int (Int32.ofInt 1), .ref 100] (g_X12_timesTold S) R _
            refine u_getE (v := (g_X12_timesTold S) 99 3) rfl v_tyM rfl rfl ?_
            show u_P L xs n d m_X12_monthTold 210 [(2, .int (f_X12_timesTold S)), (1, .int (S 99 3)), (0, .ref 100)] [.int ((g_X12_timesTold S) 99 3), .int (Int32.ofInt 1), .ref 100] (g_X12_timesTold S) R _
            refine u_cv (rest := []) rfl (by decide) mt_X12_wrongs v_tyM rfl rfl rfl (Nat.le_of_ble_eq_true rfl) (Nat.le_of_ble_eq_true rfl) (Nat.le_of_ble_eq_true rfl) (fun d' => c_X12_wrongs L xs n d' (Int32.ofInt 1) ((g_X12_timesTold S) 99 3) (g_X12_timesTold S) R) ?_
            rintro _ _ _ ⟨rfl, rfl, rfl⟩
            refine u_st rfl (fun _ => rfl) ?_
            refine u_st rfl (fun _ => rfl) ?_
            show u_P L xs n d m_X12_monthTold 235 [(2, .int (f_X12_timesTold S)), (1, .int (S 99 3)), (0, .ref 100)] [.ref 100] (g_X12_wrongs (Int32.ofInt 1) ((g_X12_timesTold S) 99 3) (g_X12_timesTold S)) R _
            refine u_cv (rest := []) rfl (by decide) mt_X12_isGood v_tyM rfl rfl rfl (Nat.le_of_ble_eq_true rfl) (Nat.le_of_ble_eq_true rfl) (Nat.le_of_ble_eq_true rfl) (fun d' => c_X12_isGood L xs n d' (g_X12_wrongs (Int32.ofInt 1) ((g_X12_timesTold S) 99 3) (g_X12_timesTold S)) R) ?_
            rintro _ _ _ ⟨_, rfl, rfl, rfl, rfl⟩
            show u_P L xs n d m_X12_monthTold 238 [(2, .int (f_X12_timesTold S)), (1, .int (S 99 3)), (0, .ref 100)] [.int (f_X12_isGood (g_X12_wrongs (Int32.ofInt 1) ((g_X12_timesTold S) 99 3) (g_X12_timesTold S)))] (g_X12_wrongs (Int32.ofInt 1) ((g_X12_timesTold S) 99 3) (g_X12_timesTold S)) R _
            refine u_if_ne rfl (fun h31 => ?_) (fun h31 => ?_)
            · have hD := hD.1 h31
              show u_P L xs n d m_X12_monthTold 242 [(2, .int (f_X12_timesTold S)), (1, .int (S 99 3)), (0, .ref 100)] [] (g_X12_wrongs (Int32.ofInt 1) ((g_X12_timesTold S) 99 3) (g_X12_timesTold S)) R _
              refine u_st rfl (fun _ => rfl) ?_
              refine u_st rfl (fun _ => rfl) ?_
              refine u_lc (b := [(0, .ref 100), (1, .int (S 99 3)), (2, .int (f_X12_timesTold S)), (3, .int (Int32.ofInt 0))]) (show ([3, 2, 1, 0] : List Nat).Nodup by decide) (show ([0, 1, 2, 3] : List Nat).Nodup by decide) (fun i => match i with | 0 => rfl | 1 => rfl | 2 => rfl | 3 => rfl | _ + 4 => rfl) ?_
              exact (hd_X12_monthTold L xs H244 K k244 n) d (S 99 3) (f_X12_timesTold S) (Int32.ofInt 0) (g_X12_wrongs (Int32.ofInt 1) ((g_X12_timesTold S) 99 3) (g_X12_timesTold S)) hD
            · have hD := hD.2 h31
              show u_P L xs n d m_X12_monthTold 241 [(2, .int (f_X12_timesTold S)), (1, .int (S 99 3)), (0, .ref 100)] [] (g_X12_wrongs (Int32.ofInt 1) ((g_X12_timesTold S) 99 3) (g_X12_timesTold S)) R _
              exact u_ret rfl rfl ⟨rfl, rfl, hD⟩
      · have hD := hD.2 h22
        show u_P L xs n d m_X12_monthTold 94 [(2, .int (f_X12_timesTold S)), (1, .int (S 99 3)), (0, .ref 100)] [] (g_X12_timesTold S) R _
        refine u_st rfl (fun _ => rfl) ?_
        show u_P L xs n d m_X12_monthTold 95 [(2, .int (f_X12_timesTold S)), (1, .int (S 99 3)), (0, .ref 100)] [.ref 100] (g_X12_timesTold S) R _
        refine u_getE (v := (g_X12_timesTold S) 99 65) rfl v_tyM rfl rfl ?_
        refine u_st rfl (fun _ => rfl) ?_
        show u_P L xs n d m_X12_monthTold 99 [(2, .int (f_X12_timesTold S)), (1, .int (S 99 3)), (0, .ref 100)] [.int (Int32.ofInt 2), .int ((g_X12_timesTold S) 99 65)] (g_X12_timesTold S) R _
        refine u_ic_ne rfl (fun h32 => ?_) (fun h32 => ?_)
        · have hD := hD.1 h32
          show u_P L xs n d m_X12_monthTold 111 [(2, .int (f_X12_timesTold S)), (1, .int (S 99 3)), (0, .ref 100)] [] (g_X12_timesTold S) R _
          refine u_st rfl (fun _ => rfl) ?_
          show u_P L xs n d m_X12_monthTold 112 [(2, .int (f_X12_timesTold S)), (1, .int (S 99 3)), (0, .ref 100)] [.ref 100] (g_X12_timesTold S) R _
          refine u_cv (rest := []) rfl (by decide) mt_X12_isGood v_tyM rfl rfl rfl (Nat.le_of_ble_eq_true rfl) (Nat.le_of_ble_eq_true rfl) (Nat.le_of_ble_eq_true rfl) (fun d' => c_X12_isGood L xs n d' (g_X12_timesTold S) R) ?_
          rintro _ _ _ ⟨_, rfl, rfl, rfl, rfl⟩
          show u_P L xs n d m_X12_monthTold 115 [(2, .int (f_X12_timesTold S)), (1, .int (S 99 3)), (0, .ref 100)] [.int (f_X12_isGood (g_X12_timesTold S))] (g_X12_timesTold S) R _
          refine u_if_ne rfl (fun h33 => ?_) (fun h33 => ?_)
          · have hD := hD.1 h33
            show u_P L xs n d m_X12_monthTold 119 [(2, .int (f_X12_timesTold S)), (1, .int (S 99 3)), (0, .ref 100)] [] (g_X12_timesTold S) R _
            refine u_st rfl (fun _ => rfl) ?_
            show u_P L xs n d m_X12_monthTold 120 [(2, .int (f_X12_timesTold S)), (1, .int (S 99 3)), (0, .ref 100)] [.ref 100] (g_X12_timesTold S) R _
            refine u_getr rfl v_tyM rfl ?_
            refine u_st rfl (fun _ => rfl) ?_
            show u_P L xs n d m_X12_monthTold 124 [(2, .int (f_X12_timesTold S)), (1, .int (S 99 3)), (0, .ref 100)] [.ref 100, .ref 135] (g_X12_timesTold S) R _
            refine u_getE (v := (g_X12_timesTold S) 99 65) rfl v_tyM rfl rfl ?_
            refine u_st rfl (fun _ => rfl) ?_
            show u_P L xs n d m_X12_monthTold 128 [(2, .int (f_X12_timesTold S)), (1, .int (S 99 3)), (0, .ref 100)] [.ref 100, .int ((g_X12_timesTold S) 99 65), .ref 135] (g_X12_timesTold S) R _
            refine u_getE (v := (g_X12_timesTold S) 99 64) rfl v_tyM rfl rfl ?_
            show u_P L xs n d m_X12_monthTold 131 [(2, .int (f_X12_timesTold S)), (1, .int (S 99 3)), (0, .ref 100)] [.int ((g_X12_timesTold S) 99 64), .int ((g_X12_timesTold S) 99 65), .ref 135] (g_X12_timesTold S) R _
            refine u_iast rfl rfl (fun b341 b342 => ?_)
            have hD := hD b341 b342
            show u_P L xs n d m_X12_monthTold 132 [(2, .int (f_X12_timesTold S)), (1, .int (S 99 3)), (0, .ref 100)] [] (z_s (g_X12_timesTold S) 134 (((g_X12_timesTold S) 99 65).toInt.toNat) ((g_X12_timesTold S) 99 64)) R _
            refine u_st rfl (fun _ => rfl) ?_
            show u_P L xs n d m_X12_monthTold 133 [(2, .int (f_X12_timesTold S)), (1, .int (S 99 3)), (0, .ref 100)] [.ref 100] (z_s (g_X12_timesTold S) 134 (((g_X12_timesTold S) 99 65).toInt.toNat) ((g_X12_timesTold S) 99 64)) R _
            refine u_getr rfl v_tyM rfl ?_
            refine u_st rfl (fun _ => rfl) ?_
            show u_P L xs n d m_X12_monthTold 137 [(2, .int (f_X12_timesTold S)), (1, .int (S 99 3)), (0, .ref 100)] [.ref 100, .ref 136] (z_s (g_X12_timesTold S) 134 (((g_X12_timesTold S) 99 65).toInt.toNat) ((g_X12_timesTold S) 99 64)) R _
            refine u_getE (v := (g_X12_timesTold S) 99 65) rfl v_tyM rfl (z_sn (fun h => absurd h.1 (by decide))) ?_
            refine u_st rfl (fun _ => rfl) ?_
            show u_P L xs n d m_X12_monthTold 141 [(2, .int (f_X12_timesTold S)), (1, .int (S 99 3)), (0, .ref 100)] [.int (f_X12_timesTold S), .int ((g_X12_timesTold S) 99 65), .ref 136] (z_s (g_X12_timesTold S) 134 (((g_X12_timesTold S) 99 65).toInt.toNat) ((g_X12_timesTold S) 99 64)) R _
            refine u_iast rfl rfl (fun b351 b352 => ?_)
            have hD := hD b351 b352
            show u_P L xs n d m_X12_monthTold 142 [(2, .int (f_X12_timesTold S)), (1, .int (S 99 3)), (0, .ref 100)] [] (z_s (z_s (g_X12_timesTold S) 134 (((g_X12_timesTold S) 99 65).toInt.toNat) ((g_X12_timesTold S) 99 64)) 135 (((g_X12_timesTold S) 99 65).toInt.toNat) (f_X12_timesTold S)) R _
            refine u_st rfl (fun _ => rfl) ?_
            show u_P L xs n d m_X12_monthTold 143 [(2, .int (f_X12_timesTold S)), (1, .int (S 99 3)), (0, .ref 100)] [.ref 100] (z_s (z_s (g_X12_timesTold S) 134 (((g_X12_timesTold S) 99 65).toInt.toNat) ((g_X12_timesTold S) 99 64)) 135 (((g_X12_timesTold S) 99 65).toInt.toNat) (f_X12_timesTold S)) R _
            refine u_getr rfl v_tyM rfl ?_
            refine u_st rfl (fun _ => rfl) ?_
            show u_P L xs n d m_X12_monthTold 147 [(2, .int (f_X12_timesTold S)), (1, .int (S 99 3)), (0, .ref 100)] [.ref 100, .ref 137] (z_s (z_s (g_X12_timesTold S) 134 (((g_X12_timesTold S) 99 65).toInt.toNat) ((g_X12_timesTold S) 99 64)) 135 (((g_X12_timesTold S) 99 65).toInt.toNat) (f_X12_timesTold S)) R _
            refine u_getE (v := (g_X12_timesTold S) 99 65) rfl v_tyM rfl ((z_sn (fun h => absurd h.1 (by decide))).trans (z_sn (fun h => absurd h.1 (by decide)))) ?_
            refine u_st rfl (fun _ => rfl) ?_
            show u_P L xs n d m_X12_monthTold 151 [(2, .int (f_X12_timesTold S)), (1, .int (S 99 3)), (0, .ref 100)] [.int (S 99 3), .int ((g_X12_timesTold S) 99 65), .ref 137] (z_s (z_s (g_X12_timesTold S) 134 (((g_X12_timesTold S) 99 65).toInt.toNat) ((g_X12_timesTold S) 99 64)) 135 (((g_X12_timesTold S) 99 65).toInt.toNat) (f_X12_timesTold S)) R _
            refine u_iast rfl rfl (fun b361 b362 => ?_)
            have hD := hD b361 b362
            show u_P L xs n d m_X12_monthTold 152 [(2, .int (f_X12_timesTold S)), (1, .int (S 99 3)), (0, .ref 100)] [] (z_s (z_s (z_s (g_X12_timesTold S) 134 (((g_X12_timesTold S) 99 65).toInt.toNat) ((g_X12_timesTold S) 99 64)) 135 (((g_X12_timesTold S) 99 65).toInt.toNat) (f_X12_timesTold S)) 136 (((g_X12_timesTold S) 99 65).toInt.toNat) (S 99 3)) R _
            refine u_st rfl (fun _ => rfl) ?_
            refine u_st rfl (fun _ => rfl) ?_
            show u_P L xs n d m_X12_monthTold 154 [(2, .int (f_X12_timesTold S)), (1, .int (S 99 3)), (0, .ref 100)] [.ref 100, .ref 100] (z_s (z_s (z_s (g_X12_timesTold S) 134 (((g_X12_timesTold S) 99 65).toInt.toNat) ((g_X12_timesTold S) 99 64)) 135 (((g_X12_timesTold S) 99 65).toInt.toNat) (f_X12_timesTold S)) 136 (((g_X12_timesTold S) 99 65).toInt.toNat) (S 99 3)) R _
            refine u_getE (v := (g_X12_timesTold S) 99 65) rfl v_tyM rfl ((z_sn (fun h => absurd h.1 (by decide))).trans ((z_sn (fun h => absurd h.1 (by decide))).trans (z_sn (fun h => absurd h.1 (by decide))))) ?_
            refine u_st rfl (fun _ => rfl) ?_
            refine u_st rfl (fun _ => rfl) ?_
            show u_P L xs n d m_X12_monthTold 159 [(2, .int (f_X12_timesTold S)), (1, .int (S 99 3)), (0, .ref 100)] [.int (((g_X12_timesTold S) 99 65) + (Int32.ofInt 1)), .ref 100] (z_s (z_s (z_s (g_X12_timesTold S) 134 (((g_X12_timesTold S) 99 65).toInt.toNat) ((g_X12_timesTold S) 99 64)) 135 (((g_X12_timesTold S) 99 65).toInt.toNat) (f_X12_timesTold S)) 136 (((g_X12_timesTold S) 99 65).toInt.toNat) (S 99 3)) R _
            refine u_put rfl v_tyM rfl ?_
            refine u_st rfl (fun _ => rfl) ?_
            refine u_st rfl (fun _ => rfl) ?_
            show u_P L xs n d m_X12_monthTold 164 [(2, .int (f_X12_timesTold S)), (1, .int (S 99 3)), (0, .ref 100)] [.int (Int32.ofInt 0), .ref 100] (z_s (z_s (z_s (z_s (g_X12_timesTold S) 134 (((g_X12_timesTold S) 99 65).toInt.toNat) ((g_X12_timesTold S) 99 64)) 135 (((g_X12_timesTold S) 99 65).toInt.toNat) (f_X12_timesTold S)) 136 (((g_X12_timesTold S) 99 65).toInt.toNat) (S 99 3)) 99 65 (((g_X12_timesTold S) 99 65) + (Int32.ofInt 1))) R _
            refine u_put rfl v_tyM rfl ?_
            refine u_st rfl (fun _ => rfl) ?_
            refine u_st rfl (fun _ => rfl) ?_
            show u_P L xs n d m_X12_monthTold 169 [(2, .int (f_X12_timesTold S)), (1, .int (S 99 3)), (0, .ref 100)] [.ref 100, .ref 100] (z_s (z_s (z_s (z_s (z_s (g_X12_timesTold S) 134 (((g_X12_timesTold S) 99 65).toInt.toNat) ((g_X12_timesTold S) 99 64)) 135 (((g_X12_timesTold S) 99 65).toInt.toNat) (f_X12_timesTold S)) 136 (((g_X12_timesTold S) 99 65).toInt.toNat) (S 99 3)) 99 65 (((g_X12_timesTold S) 99 65) + (Int32.ofInt 1))) 99 66 (Int32.ofInt 0)) R _
            refine u_getE (v := (g_X12_timesTold S) 99 3) rfl v_tyM rfl ((z_sn (fun h => absurd h.2 (by decide))).trans ((z_sn (fun h => absurd h.2 (by decide))).trans ((z_sn (fun h => absurd h.1 (by decide))).trans ((z_sn (fun h => absurd h.1 (by decide))).trans (z_sn (fun h => absurd h.1 (by decide))))))) ?_
            refine u_st rfl (fun _ => rfl) ?_
            refine u_st rfl (fun _ => rfl) ?_
            show u_P L xs n d m_X12_monthTold 174 [(2, .int (f_X12_timesTold S)), (1, .int (S 99 3)), (0, .ref 100)] [.int (((g_X12_timesTold S) 99 3) + (Int32.ofInt 1)), .ref 100] (z_s (z_s (z_s (z_s (z_s (g_X12_timesTold S) 134 (((g_X12_timesTold S) 99 65).toInt.toNat) ((g_X12_timesTold S) 99 64)) 135 (((g_X12_timesTold S) 99 65).toInt.toNat) (f_X12_timesTold S)) 136 (((g_X12_timesTold S) 99 65).toInt.toNat) (S 99 3)) 99 65 (((g_X12_timesTold S) 99 65) + (Int32.ofInt 1))) 99 66 (Int32.ofInt 0)) R _
            refine u_put rfl v_tyM rfl ?_
            show u_P L xs n d m_X12_monthTold 177 [(2, .int (f_X12_timesTold S)), (1, .int (S 99 3)), (0, .ref 100)] [] (z_s (z_s (z_s (z_s (z_s (z_s (g_X12_timesTold S) 134 (((g_X12_timesTold S) 99 65).toInt.toNat) ((g_X12_timesTold S) 99 64)) 135 (((g_X12_timesTold S) 99 65).toInt.toNat) (f_X12_timesTold S)) 136 (((g_X12_timesTold S) 99 65).toInt.toNat) (S 99 3)) 99 65 (((g_X12_timesTold S) 99 65) + (Int32.ofInt 1))) 99 66 (Int32.ofInt 0)) 99 3 (((g_X12_timesTold S) 99 3) + (Int32.ofInt 1))) R _
            exact u_ret rfl rfl ⟨rfl, rfl, hD⟩
          · have hD := hD.2 h33
            show u_P L xs n d m_X12_monthTold 118 [(2, .int (f_X12_timesTold S)), (1, .int (S 99 3)), (0, .ref 100)] [] (g_X12_timesTold S) R _
            exact u_ret rfl rfl ⟨rfl, rfl, hD⟩
        · have hD := hD.2 h32
          show u_P L xs n d m_X12_monthTold 102 [(2, .int (f_X12_timesTold S)), (1, .int (S 99 3)), (0, .ref 100)] [] (g_X12_timesTold S) R _
          refine u_st rfl (fun _ => rfl) ?_
          refine u_st rfl (fun _ => rfl) ?_
          refine u_st rfl (fun _ => rfl) ?_
          show u_P L xs n d m_X12_monthTold 105 [(2, .int (f_X12_timesTold S)), (1, .int (S 99 3)), (0, .ref 100)] [.ref 100, .int (Int32.ofInt 5), .ref 100] (g_X12_timesTold S) R _
          refine u_getE (v := (g_X12_timesTold S) 99 3) rfl v_tyM rfl rfl ?_
          show u_P L xs n d m_X12_monthTold 108 [(2, .int (f_X12_timesTold S)), (1, .int (S 99 3)), (0, .ref 100)] [.int ((g_X12_timesTold S) 99 3), .int (Int32.ofInt 5), .ref 100] (g_X12_timesTold S) R _
          refine u_cv (rest := []) rfl (by decide) mt_X12_wrongs v_tyM rfl rfl rfl (Nat.le_of_ble_eq_true rfl) (Nat.le_of_ble_eq_true rfl) (Nat.le_of_ble_eq_true rfl) (fun d' => c_X12_wrongs L xs n d' (Int32.ofInt 5) ((g_X12_timesTold S) 99 3) (g_X12_timesTold S) R) ?_
          rintro _ _ _ ⟨rfl, rfl, rfl⟩
          refine u_st rfl (fun _ => rfl) ?_
          show u_P L xs n d m_X12_monthTold 112 [(2, .int (f_X12_timesTold S)), (1, .int (S 99 3)), (0, .ref 100)] [.ref 100] (g_X12_wrongs (Int32.ofInt 5) ((g_X12_timesTold S) 99 3) (g_X12_timesTold S)) R _
          refine u_cv (rest := []) rfl (by decide) mt_X12_isGood v_tyM rfl rfl rfl (Nat.le_of_ble_eq_true rfl) (Nat.le_of_ble_eq_true rfl) (Nat.le_of_ble_eq_true rfl) (fun d' => c_X12_isGood L xs n d' (g_X12_wrongs (Int32.ofInt 5) ((g_X12_timesTold S) 99 3) (g_X12_timesTold S)) R) ?_
          rintro _ _ _ ⟨_, rfl, rfl, rfl, rfl⟩
          show u_P L xs n d m_X12_monthTold 115 [(2, .int (f_X12_timesTold S)), (1, .int (S 99 3)), (0, .ref 100)] [.int (f_X12_isGood (g_X12_wrongs (Int32.ofInt 5) ((g_X12_timesTold S) 99 3) (g_X12_timesTold S)))] (g_X12_wrongs (Int32.ofInt 5) ((g_X12_timesTold S) 99 3) (g_X12_timesTold S)) R _
          refine u_if_ne rfl (fun h37 => ?_) (fun h37 => ?_)
          · have hD := hD.1 h37
            show u_P L xs n d m_X12_monthTold 119 [(2, .int (f_X12_timesTold S)), (1, .int (S 99 3)), (0, .ref 100)] [] (g_X12_wrongs (Int32.ofInt 5) ((g_X12_timesTold S) 99 3) (g_X12_timesTold S)) R _
            refine u_st rfl (fun _ => rfl) ?_
            show u_P L xs n d m_X12_monthTold 120 [(2, .int (f_X12_timesTold S)), (1, .int (S 99 3)), (0, .ref 100)] [.ref 100] (g_X12_wrongs (Int32.ofInt 5) ((g_X12_timesTold S) 99 3) (g_X12_timesTold S)) R _
            refine u_getr rfl v_tyM rfl ?_
            refine u_st rfl (fun _ => rfl) ?_
            show u_P L xs n d m_X12_monthTold 124 [(2, .int (f_X12_timesTold S)), (1, .int (S 99 3)), (0, .ref 100)] [.ref 100, .ref 135] (g_X12_wrongs (Int32.ofInt 5) ((g_X12_timesTold S) 99 3) (g_X12_timesTold S)) R _
            refine u_getE (v := (g_X12_wrongs (Int32.ofInt 5) ((g_X12_timesTold S) 99 3) (g_X12_timesTold S)) 99 65) rfl v_tyM rfl rfl ?_
            refine u_st rfl (fun _ => rfl) ?_
            show u_P L xs n d m_X12_monthTold 128 [(2, .int (f_X12_timesTold S)), (1, .int (S 99 3)), (0, .ref 100)] [.ref 100, .int ((g_X12_wrongs (Int32.ofInt 5) ((g_X12_timesTold S) 99 3) (g_X12_timesTold S)) 99 65), .ref 135] (g_X12_wrongs (Int32.ofInt 5) ((g_X12_timesTold S) 99 3) (g_X12_timesTold S)) R _
            refine u_getE (v := (g_X12_wrongs (Int32.ofInt 5) ((g_X12_timesTold S) 99 3) (g_X12_timesTold S)) 99 64) rfl v_tyM rfl rfl ?_
            show u_P L xs n d m_X12_monthTold 131 [(2, .int (f_X12_timesTold S)), (1, .int (S 99 3)), (0, .ref 100)] [.int ((g_X12_wrongs (Int32.ofInt 5) ((g_X12_timesTold S) 99 3) (g_X12_timesTold S)) 99 64), .int ((g_X12_wrongs (Int32.ofInt 5) ((g_X12_timesTold S) 99 3) (g_X12_timesTold S)) 99 65), .ref 135] (g_X12_wrongs (Int32.ofInt 5) ((g_X12_timesTold S) 99 3) (g_X12_timesTold S)) R _
            refine u_iast rfl rfl (fun b381 b382 => ?_)
            have hD := hD b381 b382
            show u_P L xs n d m_X12_monthTold 132 [(2, .int (f_X12_timesTold S)), (1, .int (S 99 3)), (0, .ref 100)] [] (z_s (g_X12_wrongs (Int32.ofInt 5) ((g_X12_timesTold S) 99 3) (g_X12_timesTold S)) 134 (((g_X12_wrongs (Int32.ofInt 5) ((g_X12_timesTold S) 99 3) (g_X12_timesTold S)) 99 65).toInt.toNat) ((g_X12_wrongs (Int32.ofInt 5) ((g_X12_timesTold S) 99 3) (g_X12_timesTold S)) 99 64)) R _
            refine u_st rfl (fun _ => rfl) ?_
            show u_P L xs n d m_X12_monthTold 133 [(2, .int (f_X12_timesTold S)), (1, .int (S 99 3)), (0, .ref 100)] [.ref 100] (z_s (g_X12_wrongs (Int32.ofInt 5) ((g_X12_timesTold S) 99 3) (g_X12_timesTold S)) 134 (((g_X12_wrongs (Int32.ofInt 5) ((g_X12_timesTold S) 99 3) (g_X12_timesTold S)) 99 65).toInt.toNat) ((g_X12_wrongs (Int32.ofInt 5) ((g_X12_timesTold S) 99 3) (g_X12_timesTold S)) 99 64)) R _
            refine u_getr rfl v_tyM rfl ?_
            refine u_st rfl (fun _ => rfl) ?_
            show u_P L xs n d m_X12_monthTold 137 [(2, .int (f_X12_timesTold S)), (1, .int (S 99 3)), (0, .ref 100)] [.ref 100, .ref 136] (z_s (g_X12_wrongs (Int32.ofInt 5) ((g_X12_timesTold S) 99 3) (g_X12_timesTold S)) 134 (((g_X12_wrongs (Int32.ofInt 5) ((g_X12_timesTold S) 99 3) (g_X12_timesTold S)) 99 65).toInt.toNat) ((g_X12_wrongs (Int32.ofInt 5) ((g_X12_timesTold S) 99 3) (g_X12_timesTold S)) 99 64)) R _
            refine u_getE (v := (g_X12_wrongs (Int32.ofInt 5) ((g_X12_timesTold S) 99 3) (g_X12_timesTold S)) 99 65) rfl v_tyM rfl (z_sn (fun h => absurd h.1 (by decide))) ?_
            refine u_st rfl (fun _ => rfl) ?_
            show u_P L xs n d m_X12_monthTold 141 [(2, .int (f_X12_timesTold S)), (1, .int (S 99 3)), (0, .ref 100)] [.int (f_X12_timesTold S), .int ((g_X12_wrongs (Int32.ofInt 5) ((g_X12_timesTold S) 99 3) (g_X12_timesTold S)) 99 65), .ref 136] (z_s (g_X12_wrongs (Int32.ofInt 5) ((g_X12_timesTold S) 99 3) (g_X12_timesTold S)) 134 (((g_X12_wrongs (Int32.ofInt 5) ((g_X12_timesTold S) 99 3) (g_X12_timesTold S)) 99 65).toInt.toNat) ((g_X12_wrongs (Int32.ofInt 5) ((g_X12_timesTold S) 99 3) (g_X12_timesTold S)) 99 64)) R _
            refine u_iast rfl rfl (fun b391 b392 => ?_)
            have hD := hD b391 b392
            show u_P L xs n d m_X12_monthTold 142 [(2, .int (f_X12_timesTold S)), (1, .int (S 99 3)), (0, .ref 100)] [] (z_s (z_s (g_X12_wrongs (Int32.ofInt 5) ((g_X12_timesTold S) 99 3) (g_X12_timesTold S)) 134 (((g_X12_wrongs (Int32.ofInt 5) ((g_X12_timesTold S) 99 3) (g_X12_timesTold S)) 99 65).toInt.toNat) ((g_X12_wrongs (Int32.ofInt 5) ((g_X12_timesTold S) 99 3) (g_X12_timesTold S)) 99 64)) 135 (((g_X12_wrongs (Int32.ofInt 5) ((g_X12_timesTold S) 99 3) (g_X12_timesTold S)) 99 65).toInt.toNat) (f_X12_timesTold S)) R _
            refine u_st rfl (fun _ => rfl) ?_
            show u_P L xs n d m_X12_monthTold 143 [(2, .int (f_X12_timesTold S)), (1, .int (S 99 3)), (0, .ref 100)] [.ref 100] (z_s (z_s (g_X12_wrongs (Int32.ofInt 5) ((g_X12_timesTold S) 99 3) (g_X12_timesTold S)) 134 (((g_X12_wrongs (Int32.ofInt 5) ((g_X12_timesTold S) 99 3) (g_X12_timesTold S)) 99 65).toInt.toNat) ((g_X12_wrongs (Int32.ofInt 5) ((g_X12_timesTold S) 99 3) (g_X12_timesTold S)) 99 64)) 135 (((g_X12_wrongs (Int32.ofInt 5) ((g_X12_timesTold S) 99 3) (g_X12_timesTold S)) 99 65).toInt.toNat) (f_X12_timesTold S)) R _
            refine u_getr rfl v_tyM rfl ?_
            refine u_st rfl (fun _ => rfl) ?_
            show u_P L xs n d m_X12_monthTold 147 [(2, .int (f_X12_timesTold S)), (1, .int (S 99 3)), (0, .ref 100)] [.ref 100, .ref 137] (z_s (z_s (g_X12_wrongs (Int32.ofInt 5) ((g_X12_timesTold S) 99 3) (g_X12_timesTold S)) 134 (((g_X12_wrongs (Int32.ofInt 5) ((g_X12_timesTold S) 99 3) (g_X12_timesTold S)) 99 65).toInt.toNat) ((g_X12_wrongs (Int32.ofInt 5) ((g_X12_timesTold S) 99 3) (g_X12_timesTold S)) 99 64)) 135 (((g_X12_wrongs (Int32.ofInt 5) ((g_X12_timesTold S) 99 3) (g_X12_timesTold S)) 99 65).toInt.toNat) (f_X12_timesTold S)) R _
            refine u_getE (v := (g_X12_wrongs (Int32.ofInt 5) ((g_X12_timesTold S) 99 3) (g_X12_timesTold S)) 99 65) rfl v_tyM rfl ((z_sn (fun h => absurd h.1 (by decide))).trans (z_sn (fun h => absurd h.1 (by decide)))) ?_
            refine u_st rfl (fun _ => rfl) ?_
            show u_P L xs n d m_X12_monthTold 151 [(2, .int (f_X12_timesTold S)), (1, .int (S 99 3)), (0, .ref 100)] [.int (S 99 3), .int ((g_X12_wrongs (Int32.ofInt 5) ((g_X12_timesTold S) 99 3) (g_X12_timesTold S)) 99 65), .ref 137] (z_s (z_s (g_X12_wrongs (Int32.ofInt 5) ((g_X12_timesTold S) 99 3) (g_X12_timesTold S)) 134 (((g_X12_wrongs (Int32.ofInt 5) ((g_X12_timesTold S) 99 3) (g_X12_timesTold S)) 99 65).toInt.toNat) ((g_X12_wrongs (Int32.ofInt 5) ((g_X12_timesTold S) 99 3) (g_X12_timesTold S)) 99 64)) 135 (((g_X12_wrongs (Int32.ofInt 5) ((g_X12_timesTold S) 99 3) (g_X12_timesTold S)) 99 65).toInt.toNat) (f_X12_timesTold S)) R _
            refine u_iast rfl rfl (fun b401 b402 => ?_)
            have hD := hD b401 b402
            show u_P L xs n d m_X12_monthTold 152 [(2, .int (f_X12_timesTold S)), (1, .int (S 99 3)), (0, .ref 100)] [] (z_s (z_s (z_s (g_X12_wrongs (Int32.ofInt 5) ((g_X12_timesTold S) 99 3) (g_X12_timesTold S)) 134 (((g_X12_wrongs (Int32.ofInt 5) ((g_X12_timesTold S) 99 3) (g_X12_timesTold S)) 99 65).toInt.toNat) ((g_X12_wrongs (Int32.ofInt 5) ((g_X12_timesTold S) 99 3) (g_X12_timesTold S)) 99 64)) 135 (((g_X12_wrongs (Int32.ofInt 5) ((g_X12_timesTold S) 99 3) (g_X12_timesTold S)) 99 65).toInt.toNat) (f_X12_timesTold S)) 136 (((g_X12_wrongs (Int32.ofInt 5) ((g_X12_timesTold S) 99 3) (g_X12_timesTold S)) 99 65).toInt.toNat) (S 99 3)) R _
            refine u_st rfl (fun _ => rfl) ?_
            refine u_st rfl (fun _ => rfl) ?_
            show u_P L xs n d m_X12_monthTold 154 [(2, .int (f_X12_timesTold S)), (1, .int (S 99 3)), (0, .ref 100)] [.ref 100, .ref 100] (z_s (z_s (z_s (g_X12_wrongs (Int32.ofInt 5) ((g_X12_timesTold S) 99 3) (g_X12_timesTold S)) 134 (((g_X12_wrongs (Int32.ofInt 5) ((g_X12_timesTold S) 99 3) (g_X12_timesTold S)) 99 65).toInt.toNat) ((g_X12_wrongs (Int32.ofInt 5) ((g_X12_timesTold S) 99 3) (g_X12_timesTold S)) 99 64)) 135 (((g_X12_wrongs (Int32.ofInt 5) ((g_X12_timesTold S) 99 3) (g_X12_timesTold S)) 99 65).toInt.toNat) (f_X12_timesTold S)) 136 (((g_X12_wrongs (Int32.ofInt 5) ((g_X12_timesTold S) 99 3) (g_X12_timesTold S)) 99 65).toInt.toNat) (S 99 3)) R _
            refine u_getE (v := (g_X12_wrongs (Int32.ofInt 5) ((g_X12_timesTold S) 99 3) (g_X12_timesTold S)) 99 65) rfl v_tyM rfl ((z_sn (fun h => absurd h.1 (by decide))).trans ((z_sn (fun h => absurd h.1 (by decide))).trans (z_sn (fun h => absurd h.1 (by decide))))) ?_
            refine u_st rfl (fun _ => rfl) ?_
            refine u_st rfl (fun _ => rfl) ?_
            show u_P L xs n d m_X12_monthTold 159 [(2, .int (f_X12_timesTold S)), (1, .int (S 99 3)), (0, .ref 100)] [.int (((g_X12_wrongs (Int32.ofInt 5) ((g_X12_timesTold S) 99 3) (g_X12_timesTold S)) 99 65) + (Int32.ofInt 1)), .ref 100] (z_s (z_s (z_s (g_X12_wrongs (Int32.ofInt 5) ((g_X12_timesTold S) 99 3) (g_X12_timesTold S)) 134 (((g_X12_wrongs (Int32.ofInt 5) ((g_X12_timesTold S) 99 3) (g_X12_timesTold S)) 99 65).toInt.toNat) ((g_X12_wrongs (Int32.ofInt 5) ((g_X12_timesTold S) 99 3) (g_X12_timesTold S)) 99 64)) 135 (((g_X12_wrongs (Int32.ofInt 5) ((g_X12_timesTold S) 99 3) (g_X12_timesTold S)) 99 65).toInt.toNat) (f_X12_timesTold S)) 136 (((g_X12_wrongs (Int32.ofInt 5) ((g_X12_timesTold S) 99 3) (g_X12_timesTold S)) 99 65).toInt.toNat) (S 99 3)) R _
            refine u_put rfl v_tyM rfl ?_
            refine u_st rfl (fun _ => rfl) ?_
            refine u_st rfl (fun _ => rfl) ?_
            show u_P L xs n d m_X12_monthTold 164 [(2, .int (f_X12_timesTold S)), (1, .int (S 99 3)), (0, .ref 100)] [.int (Int32.ofInt 0), .ref 100] (z_s (z_s (z_s (z_s (g_X12_wrongs (Int32.ofInt 5) ((g_X12_timesTold S) 99 3) (g_X12_timesTold S)) 134 (((g_X12_wrongs (Int32.ofInt 5) ((g_X12_timesTold S) 99 3) (g_X12_timesTold S)) 99 65).toInt.toNat) ((g_X12_wrongs (Int32.ofInt 5) ((g_X12_timesTold S) 99 3) (g_X12_timesTold S)) 99 64)) 135 (((g_X12_wrongs (Int32.ofInt 5) ((g_X12_timesTold S) 99 3) (g_X12_timesTold S)) 99 65).toInt.toNat) (f_X12_timesTold S)) 136 (((g_X12_wrongs (Int32.ofInt 5) ((g_X12_timesTold S) 99 3) (g_X12_timesTold S)) 99 65).toInt.toNat) (S 99 3)) 99 65 (((g_X12_wrongs (Int32.ofInt 5) ((g_X12_timesTold S) 99 3) (g_X12_timesTold S)) 99 65) + (Int32.ofInt 1))) R _
            refine u_put rfl v_tyM rfl ?_
            refine u_st rfl (fun _ => rfl) ?_
            refine u_st rfl (fun _ => rfl) ?_
            show u_P L xs n d m_X12_monthTold 169 [(2, .int (f_X12_timesTold S)), (1, .int (S 99 3)), (0, .ref 100)] [.ref 100, .ref 100] (z_s (z_s (z_s (z_s (z_s (g_X12_wrongs (Int32.ofInt 5) ((g_X12_timesTold S) 99 3) (g_X12_timesTold S)) 134 (((g_X12_wrongs (Int32.ofInt 5) ((g_X12_timesTold S) 99 3) (g_X12_timesTold S)) 99 65).toInt.toNat) ((g_X12_wrongs (Int32.ofInt 5) ((g_X12_timesTold S) 99 3) (g_X12_timesTold S)) 99 64)) 135 (((g_X12_wrongs (Int32.ofInt 5) ((g_X12_timesTold S) 99 3) (g_X12_timesTold S)) 99 65).toInt.toNat) (f_X12_timesTold S)) 136 (((g_X12_wrongs (Int32.ofInt 5) ((g_X12_timesTold S) 99 3) (g_X12_timesTold S)) 99 65).toInt.toNat) (S 99 3)) 99 65 (((g_X12_wrongs (Int32.ofInt 5) ((g_X12_timesTold S) 99 3) (g_X12_timesTold S)) 99 65) + (Int32.ofInt 1))) 99 66 (Int32.ofInt 0)) R _
            refine u_getE (v := (g_X12_wrongs (Int32.ofInt 5) ((g_X12_timesTold S) 99 3) (g_X12_timesTold S)) 99 3) rfl v_tyM rfl ((z_sn (fun h => absurd h.2 (by decide))).trans ((z_sn (fun h => absurd h.2 (by decide))).trans ((z_sn (fun h => absurd h.1 (by decide))).trans ((z_sn (fun h => absurd h.1 (by decide))).trans (z_sn (fun h => absurd h.1 (by decide))))))) ?_
            refine u_st rfl (fun _ => rfl) ?_
            refine u_st rfl (fun _ => rfl) ?_
            show u_P L xs n d m_X12_monthTold 174 [(2, .int (f_X12_timesTold S)), (1, .int (S 99 3)), (0, .ref 100)] [.int (((g_X12_wrongs (Int32.ofInt 5) ((g_X12_timesTold S) 99 3) (g_X12_timesTold S)) 99 3) + (Int32.ofInt 1)), .ref 100] (z_s (z_s (z_s (z_s (z_s (g_X12_wrongs (Int32.ofInt 5) ((g_X12_timesTold S) 99 3) (g_X12_timesTold S)) 134 (((g_X12_wrongs (Int32.ofInt 5) ((g_X12_timesTold S) 99 3) (g_X12_timesTold S)) 99 65).toInt.toNat) ((g_X12_wrongs (Int32.ofInt 5) ((g_X12_timesTold S) 99 3) (g_X12_timesTold S)) 99 64)) 135 (((g_X12_wrongs (Int32.ofInt 5) ((g_X12_timesTold S) 99 3) (g_X12_timesTold S)) 99 65).toInt.toNat) (f_X12_timesTold S)) 136 (((g_X12_wrongs (Int32.ofInt 5) ((g_X12_timesTold S) 99 3) (g_X12_timesTold S)) 99 65).toInt.toNat) (S 99 3)) 99 65 (((g_X12_wrongs (Int32.ofInt 5) ((g_X12_timesTold S) 99 3) (g_X12_timesTold S)) 99 65) + (Int32.ofInt 1))) 99 66 (Int32.ofInt 0)) R _
            refine u_put rfl v_tyM rfl ?_
            show u_P L xs n d m_X12_monthTold 177 [(2, .int (f_X12_timesTold S)), (1, .int (S 99 3)), (0, .ref 100)] [] (z_s (z_s (z_s (z_s (z_s (z_s (g_X12_wrongs (Int32.ofInt 5) ((g_X12_timesTold S) 99 3) (g_X12_timesTold S)) 134 (((g_X12_wrongs (Int32.ofInt 5) ((g_X12_timesTold S) 99 3) (g_X12_timesTold S)) 99 65).toInt.toNat) ((g_X12_wrongs (Int32.ofInt 5) ((g_X12_timesTold S) 99 3) (g_X12_timesTold S)) 99 64)) 135 (((g_X12_wrongs (Int32.ofInt 5) ((g_X12_timesTold S) 99 3) (g_X12_timesTold S)) 99 65).toInt.toNat) (f_X12_timesTold S)) 136 (((g_X12_wrongs (Int32.ofInt 5) ((g_X12_timesTold S) 99 3) (g_X12_timesTold S)) 99 65).toInt.toNat) (S 99 3)) 99 65 (((g_X12_wrongs (Int32.ofInt 5) ((g_X12_timesTold S) 99 3) (g_X12_timesTold S)) 99 65) + (Int32.ofInt 1))) 99 66 (Int32.ofInt 0)) 99 3 (((g_X12_wrongs (Int32.ofInt 5) ((g_X12_timesTold S) 99 3) (g_X12_timesTold S)) 99 3) + (Int32.ofInt 1))) R _
            exact u_ret rfl rfl ⟨rfl, rfl, hD⟩
          · have hD := hD.2 h37
            show u_P L xs n d m_X12_monthTold 118 [(2, .int (f_X12_timesTold S)), (1, .int (S 99 3)), (0, .ref 100)] [] (g_X12_wrongs (Int32.ofInt 5) ((g_X12_timesTold S) 99 3) (g_X12_timesTold S)) R _
            exact u_ret rfl rfl ⟨rfl, rfl, hD⟩
    · have hD := hD.2 h21
      show u_P L xs n d m_X12_monthTold 21 [(1, .int (S 99 3)), (0, .ref 100)] [] S R _
      refine u_st rfl (fun _ => rfl) ?_
      show u_P L xs n d m_X12_monthTold 22 [(1, .int (S 99 3)), (0, .ref 100)] [.ref 100] S R _
      refine u_getE (v := S 99 66) rfl v_tyM rfl rfl ?_
      show u_P L xs n d m_X12_monthTold 25 [(1, .int (S 99 3)), (0, .ref 100)] [.int (S 99 66)] S R _
      refine u_if_eq rfl (fun h41 => ?_) (fun h41 => ?_)
      · have hD := hD.1 h41
        show u_P L xs n d m_X12_monthTold 80 [(1, .int (S 99 3)), (0, .ref 100)] [] S R _
        refine u_st rfl (fun _ => rfl) ?_
        show u_P L xs n d m_X12_monthTold 81 [(1, .int (S 99 3)), (0, .ref 100)] [.ref 100] S R _
        refine u_cv (rest := []) rfl (by decide) mt_X12_timesTold v_tyM rfl rfl rfl (Nat.le_of_ble_eq_true rfl) (Nat.le_of_ble_eq_true rfl) (Nat.le_of_ble_eq_true rfl) (fun d' => c_X12_timesTold L xs n d' S R) ?_
        rintro _ _ _ ⟨_, rfl, rfl, rfl, rfl⟩
        refine u_st rfl (fun _ => rfl) ?_
        refine u_st rfl (fun _ => rfl) ?_
        show u_P L xs n d m_X12_monthTold 86 [(2, .int (f_X12_timesTold S)), (1, .int (S 99 3)), (0, .ref 100)] [.ref 100] (g_X12_timesTold S) R _
        refine u_cv (rest := []) rfl (by decide) mt_X12_here v_tyM rfl rfl rfl (Nat.le_of_ble_eq_true rfl) (Nat.le_of_ble_eq_true rfl) (Nat.le_of_ble_eq_true rfl) (fun d' => c_X12_here L xs n d' (g_X12_timesTold S) R) ?_
        rintro _ _ _ ⟨_, rfl, rfl, rfl, rfl⟩
        refine u_st rfl (fun _ => rfl) ?_
        show u_P L xs n d m_X12_monthTold 91 [(2, .int (f_X12_timesTold S)), (1, .int (S 99 3)), (0, .ref 100)] [.int (Int32.ofInt 40), .int (f_X12_here (g_X12_timesTold S))] (g_X12_timesTold S) R _
        refine u_ic_ne rfl (fun h42 => ?_) (fun h42 => ?_)
        · have hD := hD.1 h42
          show u_P L xs n d m_X12_monthTold 178 [(2, .int (f_X12_timesTold S)), (1, .int (S 99 3)), (0, .ref 100)] [] (g_X12_timesTold S) R _
          refine u_st rfl (fun _ => rfl) ?_
          show u_P L xs n d m_X12_monthTold 179 [(2, .int (f_X12_timesTold S)), (1, .int (S 99 3)), (0, .ref 100)] [.ref 100] (g_X12_timesTold S) R _
          refine u_cv (rest := []) rfl (by decide) mt_X12_here v_tyM rfl rfl rfl (Nat.le_of_ble_eq_true rfl) (Nat.le_of_ble_eq_true rfl) (Nat.le_of_ble_eq_true rfl) (fun d' => c_X12_here L xs n d' (g_X12_timesTold S) R) ?_
          rintro _ _ _ ⟨_, rfl, rfl, rfl, rfl⟩
          refine u_st rfl (fun _ => rfl) ?_
          show u_P L xs n d m_X12_monthTold 184 [(2, .int (f_X12_timesTold S)), (1, .int (S 99 3)), (0, .ref 100)] [.int (Int32.ofInt 46), .int (f_X12_here (g_X12_timesTold S))] (g_X12_timesTold S) R _
          refine u_ic_eq rfl (fun h43 => ?_) (fun h43 => ?_)
          · have hD := hD.1 h43
            show u_P L xs n d m_X12_monthTold 216 [(2, .int (f_X12_timesTold S)), (1, .int (S 99 3)), (0, .ref 100)] [] (g_X12_timesTold S) R _
            refine u_st rfl (fun _ => rfl) ?_
            show u_P L xs n d m_X12_monthTold 217 [(2, .int (f_X12_timesTold S)), (1, .int (S 99 3)), (0, .ref 100)] [.ref 100] (g_X12_timesTold S) R _
            refine u_getE (v := (g_X12_timesTold S) 99 64) rfl v_tyM rfl rfl ?_
            refine u_st rfl (fun _ => rfl) ?_
            refine u_st rfl (fun _ => rfl) ?_
            refine u_st rfl (fun _ => rfl) ?_
            show u_P L xs n d m_X12_monthTold 224 [(2, .int (f_X12_timesTold S)), (1, .int (S 99 3)), (0, .ref 100)] [.int (Int32.ofInt 48), .int (((g_X12_timesTold S) 99 64) + (f_X12_timesTold S))] (g_X12_timesTold S) R _
            refine u_ic_le rfl (fun h44 => ?_) (fun h44 => ?_)
            · have hD := hD.1 h44
              show u_P L xs n d m_X12_monthTold 234 [(2, .int (f_X12_timesTold S)), (1, .int (S 99 3)), (0, .ref 100)] [] (g_X12_timesTold S) R _
              refine u_st rfl (fun _ => rfl) ?_
              show u_P L xs n d m_X12_monthTold 235 [(2, .int (f_X12_timesTold S)), (1, .int (S 99 3)), (0, .ref 100)] [.ref 100] (g_X12_timesTold S) R _
              refine u_cv (rest := []) rfl (by decide) mt_X12_isGood v_tyM rfl rfl rfl (Nat.le_of_ble_eq_true rfl) (Nat.le_of_ble_eq_true rfl) (Nat.le_of_ble_eq_true rfl) (fun d' => c_X12_isGood L xs n d' (g_X12_timesTold S) R) ?_
              rintro _ _ _ ⟨_, rfl, rfl, rfl, rfl⟩
              show u_P L xs n d m_X12_monthTold 238 [(2, .int (f_X12_timesTold S)), (1, .int (S 99 3)), (0, .ref 100)] [.int (f_X12_isGood (g_X12_timesTold S))] (g_X12_timesTold S) R _
              refine u_if_ne rfl (fun h45 => ?_) (fun h45 => ?_)
              · have hD := hD.1 h45
                show u_P L xs n d m_X12_monthTold 242 [(2, .int (f_X12_timesTold S)), (1, .int (S 99 3)), (0, .ref 100)] [] (g_X12_timesTold S) R _
                refine u_st rfl (fun _ => rfl) ?_
                refine u_st rfl (fun _ => rfl) ?_
                refine u_lc (b := [(0, .ref 100), (1, .int (S 99 3)), (2, .int (f_X12_timesTold S)), (3, .int (Int32.ofInt 0))]) (show ([3, 2, 1, 0] : List Nat).Nodup by decide) (show ([0, 1, 2, 3] : List Nat).Nodup by decide) (fun i => match i with | 0 => rfl | 1 => rfl | 2 => rfl | 3 => rfl | _ + 4 => rfl) ?_
                exact (hd_X12_monthTold L xs H244 K k244 n) d (S 99 3) (f_X12_timesTold S) (Int32.ofInt 0) (g_X12_timesTold S) hD
              · have hD := hD.2 h45
                show u_P L xs n d m_X12_monthTold 241 [(2, .int (f_X12_timesTold S)), (1, .int (S 99 3)), (0, .ref 100)] [] (g_X12_timesTold S) R _
                exact u_ret rfl rfl ⟨rfl, rfl, hD⟩
            · have hD := hD.2 h44
              show u_P L xs n d m_X12_monthTold 227 [(2, .int (f_X12_timesTold S)), (1, .int (S 99 3)), (0, .ref 100)] [] (g_X12_timesTold S) R _
              refine u_st rfl (fun _ => rfl) ?_
              refine u_st rfl (fun _ => rfl) ?_
              refine u_st rfl (fun _ => rfl) ?_
              show u_P L xs n d m_X12_monthTold 231 [(2, .int (f_X12_timesTold S)), (1, .int (S 99 3)), (0, .ref 100)] [.int (S 99 3), .int (Int32.ofInt 6), .ref 100] (g_X12_timesTold S) R _
              refine u_cv (rest := []) rfl (by decide) mt_X12_wrongs v_tyM rfl rfl rfl (Nat.le_of_ble_eq_true rfl) (Nat.le_of_ble_eq_true rfl) (Nat.le_of_ble_eq_true rfl) (fun d' => c_X12_wrongs L xs n d' (Int32.ofInt 6) (S 99 3) (g_X12_timesTold S) R) ?_
              rintro _ _ _ ⟨rfl, rfl, rfl⟩
              refine u_st rfl (fun _ => rfl) ?_
              show u_P L xs n d m_X12_monthTold 235 [(2, .int (f_X12_timesTold S)), (1, .int (S 99 3)), (0, .ref 100)] [.ref 100] (g_X12_wrongs (Int32.ofInt 6) (S 99 3) (g_X12_timesTold S)) R _
              refine u_cv (rest := []) rfl (by decide) mt_X12_isGood v_tyM rfl rfl rfl (Nat.le_of_ble_eq_true rfl) (Nat.le_of_ble_eq_true rfl) (Nat.le_of_ble_eq_true rfl) (fun d' => c_X12_isGood L xs n d' (g_X12_wrongs (Int32.ofInt 6) (S 99 3) (g_X12_timesTold S)) R) ?_
              rintro _ _ _ ⟨_, rfl, rfl, rfl, rfl⟩
              show u_P L xs n d m_X12_monthTold 238 [(2, .int (f_X12_timesTold S)), (1, .int (S 99 3)), (0, .ref 100)] [.int (f_X12_isGood (g_X12_wrongs (Int32.ofInt 6) (S 99 3) (g_X12_timesTold S)))] (g_X12_wrongs (Int32.ofInt 6) (S 99 3) (g_X12_timesTold S)) R _
              refine u_if_ne rfl (fun h46 => ?_) (fun h46 => ?_)
              · have hD := hD.1 h46
                show u_P L xs n d m_X12_monthTold 242 [(2, .int (f_X12_timesTold S)), (1, .int (S 99 3)), (0, .ref 100)] [] (g_X12_wrongs (Int32.ofInt 6) (S 99 3) (g_X12_timesTold S)) R _
                refine u_st rfl (fun _ => rfl) ?_
                refine u_st rfl (fun _ => rfl) ?_
                refine u_lc (b := [(0, .ref 100), (1, .int (S 99 3)), (2, .int (f_X12_timesTold S)), (3, .int (Int32.ofInt 0))]) (show ([3, 2, 1, 0] : List Nat).Nodup by decide) (show ([0, 1, 2, 3] : List Nat).Nodup by decide) (fun i => match i with | 0 => rfl | 1 => rfl | 2 => rfl | 3 => rfl | _ + 4 => rfl) ?_
                exact (hd_X12_monthTold L xs H244 K k244 n) d (S 99 3) (f_X12_timesTold S) (Int32.ofInt 0) (g_X12_wrongs (Int32.ofInt 6) (S 99 3) (g_X12_timesTold S)) hD
              · have hD := hD.2 h46
                show u_P L xs n d m_X12_monthTold 241 [(2, .int (f_X12_timesTold S)), (1, .int (S 99 3)), (0, .ref 100)] [] (g_X12_wrongs (Int32.ofInt 6) (S 99 3) (g_X12_timesTold S)) R _
                exact u_ret rfl rfl ⟨rfl, rfl, hD⟩
          · have hD := hD.2 h43
            show u_P L xs n d m_X12_monthTold 187 [(2, .int (f_X12_timesTold S)), (1, .int (S 99 3)), (0, .ref 100)] [] (g_X12_timesTold S) R _
            refine u_st rfl (fun _ => rfl) ?_
            show u_P L xs n d m_X12_monthTold 188 [(2, .int (f_X12_timesTold S)), (1, .int (S 99 3)), (0, .ref 100)] [.ref 100] (g_X12_timesTold S) R _
            refine u_cv (rest := []) rfl (by decide) mt_X12_here v_tyM rfl rfl rfl (Nat.le_of_ble_eq_true rfl) (Nat.le_of_ble_eq_true rfl) (Nat.le_of_ble_eq_true rfl) (fun d' => c_X12_here L xs n d' (g_X12_timesTold S) R) ?_
            rintro _ _ _ ⟨_, rfl, rfl, rfl, rfl⟩
            refine u_st rfl (fun _ => rfl) ?_
            refine u_st rfl (fun _ => rfl) ?_
            refine u_st rfl (fun _ => rfl) ?_
            show u_P L xs n d m_X12_monthTold 198 [(2, .int (f_X12_timesTold S)), (1, .int (S 99 3)), (0, .ref 100)] [.long (Int64.ofInt 74), .long (Int64.ofInt 65), .long ((f_X12_here (g_X12_timesTold S)).toInt64)] (g_X12_timesTold S) R _
            refine u_cs (ac := [.long ((f_X12_here (g_X12_timesTold S)).toInt64), .long (Int64.ofInt 65), .long (Int64.ofInt 74)]) (rest := []) rfl (by decide) mt_X12_lies (fun _ => rfl) (Nat.le_of_ble_eq_true rfl) (Nat.le_of_ble_eq_true rfl) (fun d' => z_liesC L xs n d' ((f_X12_here (g_X12_timesTold S))) (Int64.ofInt 65) (Int64.ofInt 74) (lo := 65) (hi := 74) rfl rfl (g_X12_timesTold S) R) ?_
            rintro _ _ _ ⟨_, rfl, rfl, rfl, rfl⟩
            show u_P L xs n d m_X12_monthTold 201 [(2, .int (f_X12_timesTold S)), (1, .int (S 99 3)), (0, .ref 100)] [.int (z_in ((f_X12_here (g_X12_timesTold S))) 65 74)] (g_X12_timesTold S) R _
            refine u_if_ne rfl (fun h47 => ?_) (fun h47 => ?_)
            · have hD := hD.1 h47
              show u_P L xs n d m_X12_monthTold 216 [(2, .int (f_X12_timesTold S)), (1, .int (S 99 3)), (0, .ref 100)] [] (g_X12_timesTold S) R _
              refine u_st rfl (fun _ => rfl) ?_
              show u_P L xs n d m_X12_monthTold 217 [(2, .int (f_X12_timesTold S)), (1, .int (S 99 3)), (0, .ref 100)] [.ref 100] (g_X12_timesTold S) R _
              refine u_getE (v := (g_X12_timesTold S) 99 64) rfl v_tyM rfl rfl ?_
              refine u_st rfl (fun _ => rfl) ?_
              refine u_st rfl (fun _ => rfl) ?_
              refine u_st rfl (fun _ => rfl) ?_
              show u_P L xs n d m_X12_monthTold 224 [(2, .int (f_X12_timesTold S)), (1, .int (S 99 3)), (0, .ref 100)] [.int (Int32.ofInt 48), .int (((g_X12_timesTold S) 99 64) + (f_X12_timesTold S))] (g_X12_timesTold S) R _
              refine u_ic_le rfl (fun h48 => ?_) (fun h48 => ?_)
              · have hD := hD.1 h48
                show u_P L xs n d m_X12_monthTold 234 [(2, .int (f_X12_timesTold S)), (1, .int (S 99 3)), (0, .ref 100)] [] (g_X12_timesTold S) R _
                refine u_st rfl (fun _ => rfl) ?_
                show u_P L xs n d m_X12_monthTold 235 [(2, .int (f_X12_timesTold S)), (1, .int (S 99 3)), (0, .ref 100)] [.ref 100] (g_X12_timesTold S) R _
                refine u_cv (rest := []) rfl (by decide) mt_X12_isGood v_tyM rfl rfl rfl (Nat.le_of_ble_eq_true rfl) (Nat.le_of_ble_eq_true rfl) (Nat.le_of_ble_eq_true rfl) (fun d' => c_X12_isGood L xs n d' (g_X12_timesTold S) R) ?_
                rintro _ _ _ ⟨_, rfl, rfl, rfl, rfl⟩
                show u_P L xs n d m_X12_monthTold 238 [(2, .int (f_X12_timesTold S)), (1, .int (S 99 3)), (0, .ref 100)] [.int (f_X12_isGood (g_X12_timesTold S))] (g_X12_timesTold S) R _
                refine u_if_ne rfl (fun h49 => ?_) (fun h49 => ?_)
                · have hD := hD.1 h49
                  show u_P L xs n d m_X12_monthTold 242 [(2, .int (f_X12_timesTold S)), (1, .int (S 99 3)), (0, .ref 100)] [] (g_X12_timesTold S) R _
                  refine u_st rfl (fun _ => rfl) ?_
                  refine u_st rfl (fun _ => rfl) ?_
                  refine u_lc (b := [(0, .ref 100), (1, .int (S 99 3)), (2, .int (f_X12_timesTold S)), (3, .int (Int32.ofInt 0))]) (show ([3, 2, 1, 0] : List Nat).Nodup by decide) (show ([0, 1, 2, 3] : List Nat).Nodup by decide) (fun i => match i with | 0 => rfl | 1 => rfl | 2 => rfl | 3 => rfl | _ + 4 => rfl) ?_
                  exact (hd_X12_monthTold L xs H244 K k244 n) d (S 99 3) (f_X12_timesTold S) (Int32.ofInt 0) (g_X12_timesTold S) hD
                · have hD := hD.2 h49
                  show u_P L xs n d m_X12_monthTold 241 [(2, .int (f_X12_timesTold S)), (1, .int (S 99 3)), (0, .ref 100)] [] (g_X12_timesTold S) R _
                  exact u_ret rfl rfl ⟨rfl, rfl, hD⟩
              · have hD := hD.2 h48
                show u_P L xs n d m_X12_monthTold 227 [(2, .int (f_X12_timesTold S)), (1, .int (S 99 3)), (0, .ref 100)] [] (g_X12_timesTold S) R _
                refine u_st rfl (fun _ => rfl) ?_
                refine u_st rfl (fun _ => rfl) ?_
                refine u_st rfl (fun _ => rfl) ?_
                show u_P L xs n d m_X12_monthTold 231 [(2, .int (f_X12_timesTold S)), (1, .int (S 99 3)), (0, .ref 100)] [.int (S 99 3), .int (Int32.ofInt 6), .ref 100] (g_X12_timesTold S) R _
                refine u_cv (rest := []) rfl (by decide) mt_X12_wrongs v_tyM rfl rfl rfl (Nat.le_of_ble_eq_true rfl) (Nat.le_of_ble_eq_true rfl) (Nat.le_of_ble_eq_true rfl) (fun d' => c_X12_wrongs L xs n d' (Int32.ofInt 6) (S 99 3) (g_X12_timesTold S) R) ?_
                rintro _ _ _ ⟨rfl, rfl, rfl⟩
                refine u_st rfl (fun _ => rfl) ?_
                show u_P L xs n d m_X12_monthTold 235 [(2, .int (f_X12_timesTold S)), (1, .int (S 99 3)), (0, .ref 100)] [.ref 100] (g_X12_wrongs (Int32.ofInt 6) (S 99 3) (g_X12_timesTold S)) R _
                refine u_cv (rest := []) rfl (by decide) mt_X12_isGood v_tyM rfl rfl rfl (Nat.le_of_ble_eq_true rfl) (Nat.le_of_ble_eq_true rfl) (Nat.le_of_ble_eq_true rfl) (fun d' => c_X12_isGood L xs n d' (g_X12_wrongs (Int32.ofInt 6) (S 99 3) (g_X12_timesTold S)) R) ?_
                rintro _ _ _ ⟨_, rfl, rfl, rfl, rfl⟩
                show u_P L xs n d m_X12_monthTold 238 [(2, .int (f_X12_timesTold S)), (1, .int (S 99 3)), (0, .ref 100)] [.int (f_X12_isGood (g_X12_wrongs (Int32.ofInt 6) (S 99 3) (g_X12_timesTold S)))] (g_X12_wrongs (Int32.ofInt 6) (S 99 3) (g_X12_timesTold S)) R _
                refine u_if_ne rfl (fun h50 => ?_) (fun h50 => ?_)
                · have hD := hD.1 h50
                  show u_P L xs n d m_X12_monthTold 242 [(2, .int (f_X12_timesTold S)), (1, .int (S 99 3)), (0, .ref 100)] [] (g_X12_wrongs (Int32.ofInt 6) (S 99 3) (g_X12_timesTold S)) R _
                  refine u_st rfl (fun _ => rfl) ?_
                  refine u_st rfl (fun _ => rfl) ?_
                  refine u_lc (b := [(0, .ref 100), (1, .int (S 99 3)), (2, .int (f_X12_timesTold S)), (3, .int (Int32.ofInt 0))]) (show ([3, 2, 1, 0] : List Nat).Nodup by decide) (show ([0, 1, 2, 3] : List Nat).Nodup by decide) (fun i => match i with | 0 => rfl | 1 => rfl | 2 => rfl | 3 => rfl | _ + 4 => rfl) ?_
                  exact (hd_X12_monthTold L xs H244 K k244 n) d (S 99 3) (f_X12_timesTold S) (Int32.ofInt 0) (g_X12_wrongs (Int32.ofInt 6) (S 99 3) (g_X12_timesTold S)) hD
                · have hD := hD.2 h50
                  show u_P L xs n d m_X12_monthTold 241 [(2, .int (f_X12_timesTold S)), (1, .int (S 99 3)), (0, .ref 100)] [] (g_X12_wrongs (Int32.ofInt 6) (S 99 3) (g_X12_timesTold S)) R _
                  exact u_ret rfl rfl ⟨rfl, rfl, hD⟩
            · have hD := hD.2 h47
              show u_P L xs n d m_X12_monthTold 204 [(2, .int (f_X12_timesTold S)), (1, .int (S 99 3)), (0, .ref 100)] [] (g_X12_timesTold S) R _
              refine u_st rfl (fun _ => rfl) ?_
              refine u_st rfl (fun _ => rfl) ?_
              refine u_st rfl (fun _ => rfl) ?_
              show u_P L xs n d m_X12_monthTold 207 [(2, .int (f_X12_timesTold S)), (1, .int (S 99 3)), (0, .ref 100)] [.ref 100, .int (Int32.ofInt 1), .ref 100] (g_X12_timesTold S) R _
              refine u_getE (v := (g_X12_timesTold S) 99 3) rfl v_tyM rfl rfl ?_
              show u_P L xs n d m_X12_monthTold 210 [(2, .int (f_X12_timesTold S)), (1, .int (S 99 3)), (0, .ref 100)] [.int ((g_X12_timesTold S) 99 3), .int (Int32.ofInt 1), .ref 100] (g_X12_timesTold S) R _
              refine u_cv (rest := []) rfl (by decide) mt_X12_wrongs v_tyM rfl rfl rfl (Nat.le_of_ble_eq_true rfl) (Nat.le_of_ble_eq_true rfl) (Nat.le_of_ble_eq_true rfl) (fun d' => c_X12_wrongs L xs n d' (Int32.ofInt 1) ((g_X12_timesTold S) 99 3) (g_X12_timesTold S) R) ?_
              rintro _ _ _ ⟨rfl, rfl, rfl⟩
              refine u_st rfl (fun _ => rfl) ?_
              refine u_st rfl (fun _ => rfl) ?_
              show u_P L xs n d m_X12_monthTold 235 [(2, .int (f_X12_timesTold S)), (1, .int (S 99 3)), (0, .ref 100)] [.ref 100] (g_X12_wrongs (Int32.ofInt 1) ((g_X12_timesTold S) 99 3) (g_X12_timesTold S)) R _
              refine u_cv (rest := []) rfl (by decide) mt_X12_isGood v_tyM rfl rfl rfl (Nat.le_of_ble_eq_true rfl) (Nat.le_of_ble_eq_true rfl) (Nat.le_of_ble_eq_true rfl) (fun d' => c_X12_isGood L xs n d' (g_X12_wrongs (Int32.ofInt 1) ((g_X12_timesTold S) 99 3) (g_X12_timesTold S)) R) ?_
              rintro _ _ _ ⟨_, rfl, rfl, rfl, rfl⟩
              show u_P L xs n d m_X12_monthTold 238 [(2, .int (f_X12_timesTold S)), (1, .int (S 99 3)), (0, .ref 100)] [.int (f_X12_isGood (g_X12_wrongs (Int32.ofInt 1) ((g_X12_timesTold S) 99 3) (g_X12_timesTold S)))] (g_X12_wrongs (Int32.ofInt 1) ((g_X12_timesTold S) 99 3) (g_X12_timesTold S)) R _
              refine u_if_ne rfl (fun h51 => ?_) (fun h51 => ?_)
              · have hD := hD.1 h51
                show u_P L xs n d m_X12_monthTold 242 [(2, .int (f_X12_timesTold S)), (1, .int (S 99 3)), (0, .ref 100)] [] (g_X12_wrongs (Int32.ofInt 1) ((g_X12_timesTold S) 99 3) (g_X12_timesTold S)) R _
                refine u_st rfl (fun _ => rfl) ?_
                refine u_st rfl (fun _ => rfl) ?_
                refine u_lc (b := [(0, .ref 100), (1, .int (S 99 3)), (2, .int (f_X12_timesTold S)), (3, .int (Int32.ofInt 0))]) (show ([3, 2, 1, 0] : List Nat).Nodup by decide) (show ([0, 1, 2, 3] : List Nat).Nodup by decide) (fun i => match i with | 0 => rfl | 1 => rfl | 2 => rfl | 3 => rfl | _ + 4 => rfl) ?_
                exact (hd_X12_monthTold L xs H244 K k244 n) d (S 99 3) (f_X12_timesTold S) (Int32.ofInt 0) (g_X12_wrongs (Int32.ofInt 1) ((g_X12_timesTold S) 99 3) (g_X12_timesTold S)) hD
              · have hD := hD.2 h51
                show u_P L xs n d m_X12_monthTold 241 [(2, .int (f_X12_timesTold S)), (1, .int (S 99 3)), (0, .ref 100)] [] (g_X12_wrongs (Int32.ofInt 1) ((g_X12_timesTold S) 99 3) (g_X12_timesTold S)) R _
                exact u_ret rfl rfl ⟨rfl, rfl, hD⟩
        · have hD := hD.2 h42
          show u_P L xs n d m_X12_monthTold 94 [(2, .int (f_X12_timesTold S)), (1, .int (S 99 3)), (0, .ref 100)] [] (g_X12_timesTold S) R _
          refine u_st rfl (fun _ => rfl) ?_
          show u_P L xs n d m_X12_monthTold 95 [(2, .int (f_X12_timesTold S)), (1, .int (S 99 3)), (0, .ref 100)] [.ref 100] (g_X12_timesTold S) R _
          refine u_getE (v := (g_X12_timesTold S) 99 65) rfl v_tyM rfl rfl ?_
          refine u_st rfl (fun _ => rfl) ?_
          show u_P L xs n d m_X12_monthTold 99 [(2, .int (f_X12_timesTold S)), (1, .int (S 99 3)), (0, .ref 100)] [.int (Int32.ofInt 2), .int ((g_X12_timesTold S) 99 65)] (g_X12_timesTold S) R _
          refine u_ic_ne rfl (fun h52 => ?_) (fun h52 => ?_)
          · have hD := hD.1 h52
            show u_P L xs n d m_X12_monthTold 111 [(2, .int (f_X12_timesTold S)), (1, .int (S 99 3)), (0, .ref 100)] [] (g_X12_timesTold S) R _
            refine u_st rfl (fun _ => rfl) ?_
            show u_P L xs n d m_X12_monthTold 112 [(2, .int (f_X12_timesTold S)), (1, .int (S 99 3)), (0, .ref 100)] [.ref 100] (g_X12_timesTold S) R _
            refine u_cv (rest := []) rfl (by decide) mt_X12_isGood v_tyM rfl rfl rfl (Nat.le_of_ble_eq_true rfl) (Nat.le_of_ble_eq_true rfl) (Nat.le_of_ble_eq_true rfl) (fun d' => c_X12_isGood L xs n d' (g_X12_timesTold S) R) ?_
            rintro _ _ _ ⟨_, rfl, rfl, rfl, rfl⟩
            show u_P L xs n d m_X12_monthTold 115 [(2, .int (f_X12_timesTold S)), (1, .int (S 99 3)), (0, .ref 100)] [.int (f_X12_isGood (g_X12_timesTold S))] (g_X12_timesTold S) R _
            refine u_if_ne rfl (fun h53 => ?_) (fun h53 => ?_)
            · have hD := hD.1 h53
              show u_P L xs n d m_X12_monthTold 119 [(2, .int (f_X12_timesTold S)), (1, .int (S 99 3)), (0, .ref 100)] [] (g_X12_timesTold S) R _
              refine u_st rfl (fun _ => rfl) ?_
              show u_P L xs n d m_X12_monthTold 120 [(2, .int (f_X12_timesTold S)), (1, .int (S 99 3)), (0, .ref 100)] [.ref 100] (g_X12_timesTold S) R _
              refine u_getr rfl v_tyM rfl ?_
              refine u_st rfl (fun _ => rfl) ?_
              show u_P L xs n d m_X12_monthTold 124 [(2, .int (f_X12_timesTold S)), (1, .int (S 99 3)), (0, .ref 100)] [.ref 100, .ref 135] (g_X12_timesTold S) R _
              refine u_getE (v := (g_X12_timesTold S) 99 65) rfl v_tyM rfl rfl ?_
              refine u_st rfl (fun _ => rfl) ?_
              show u_P L xs n d m_X12_monthTold 128 [(2, .int (f_X12_timesTold S)), (1, .int (S 99 3)), (0, .ref 100)] [.ref 100, .int ((g_X12_timesTold S) 99 65), .ref 135] (g_X12_timesTold S) R _
              refine u_getE (v := (g_X12_timesTold S) 99 64) rfl v_tyM rfl rfl ?_
              show u_P L xs n d m_X12_monthTold 131 [(2, .int (f_X12_timesTold S)), (1, .int (S 99 3)), (0, .ref 100)] [.int ((g_X12_timesTold S) 99 64), .int ((g_X12_timesTold S) 99 65), .ref 135] (g_X12_timesTold S) R _
              refine u_iast rfl rfl (fun b541 b542 => ?_)
              have hD := hD b541 b542
              show u_P L xs n d m_X12_monthTold 132 [(2, .int (f_X12_timesTold S)), (1, .int (S 99 3)), (0, .ref 100)] [] (z_s (g_X12_timesTold S) 134 (((g_X12_timesTold S) 99 65).toInt.toNat) ((g_X12_timesTold S) 99 64)) R _
              refine u_st rfl (fun _ => rfl) ?_
              show u_P L xs n d m_X12_monthTold 133 [(2, .int (f_X12_timesTold S)), (1, .int (S 99 3)), (0, .ref 100)] [.ref 100] (z_s (g_X12_timesTold S) 134 (((g_X12_timesTold S) 99 65).toInt.toNat) ((g_X12_timesTold S) 99 64)) R _
              refine u_getr rfl v_tyM rfl ?_
              refine u_st rfl (fun _ => rfl) ?_
              show u_P L xs n d m_X12_monthTold 137 [(2, .int (f_X12_timesTold S)), (1, .int (S 99 3)), (0, .ref 100)] [.ref 100, .ref 136] (z_s (g_X12_timesTold S) 134 (((g_X12_timesTold S) 99 65).toInt.toNat) ((g_X12_timesTold S) 99 64)) R _
              refine u_getE (v := (g_X12_timesTold S) 99 65) rfl v_tyM rfl (z_sn (fun h => absurd h.1 (by decide))) ?_
              refine u_st rfl (fun _ => rfl) ?_
              show u_P L xs n d m_X12_monthTold 141 [(2, .int (f_X12_timesTold S)), (1, .int (S 99 3)), (0, .ref 100)] [.int (f_X12_timesTold S), .int ((g_X12_timesTold S) 99 65), .ref 136] (z_s (g_X12_timesTold S) 134 (((g_X12_timesTold S) 99 65).toInt.toNat) ((g_X12_timesTold S) 99 64)) R _
              refine u_iast rfl rfl (fun b551 b552 => ?_)
              have hD := hD b551 b552
              show u_P L xs n d m_X12_monthTold 142 [(2, .int (f_X12_timesTold S)), (1, .int (S 99 3)), (0, .ref 100)] [] (z_s (z_s (g_X12_timesTold S) 134 (((g_X12_timesTold S) 99 65).toInt.toNat) ((g_X12_timesTold S) 99 64)) 135 (((g_X12_timesTold S) 99 65).toInt.toNat) (f_X12_timesTold S)) R _
              refine u_st rfl (fun _ => rfl) ?_
              show u_P L xs n d m_X12_monthTold 143 [(2, .int (f_X12_timesTold S)), (1, .int (S 99 3)), (0, .ref 100)] [.ref 100] (z_s (z_s (g_X12_timesTold S) 134 (((g_X12_timesTold S) 99 65).toInt.toNat) ((g_X12_timesTold S) 99 64)) 135 (((g_X12_timesTold S) 99 65).toInt.toNat) (f_X12_timesTold S)) R _
              refine u_getr rfl v_tyM rfl ?_
              refine u_st rfl (fun _ => rfl) ?_
              show u_P L xs n d m_X12_monthTold 147 [(2, .int (f_X12_timesTold S)), (1, .int (S 99 3)), (0, .ref 100)] [.ref 100, .ref 137] (z_s (z_s (g_X12_timesTold S) 134 (((g_X12_timesTold S) 99 65).toInt.toNat) ((g_X12_timesTold S) 99 64)) 135 (((g_X12_timesTold S) 99 65).toInt.toNat) (f_X12_timesTold S)) R _
              refine u_getE (v := (g_X12_timesTold S) 99 65) rfl v_tyM rfl ((z_sn (fun h => absurd h.1 (by decide))).trans (z_sn (fun h => absurd h.1 (by decide)))) ?_
              refine u_st rfl (fun _ => rfl) ?_
              show u_P L xs n d m_X12_monthTold 151 [(2, .int (f_X12_timesTold S)), (1, .int (S 99 3)), (0, .ref 100)] [.int (S 99 3), .int ((g_X12_timesTold S) 99 65), .ref 137] (z_s (z_s (g_X12_timesTold S) 134 (((g_X12_timesTold S) 99 65).toInt.toNat) ((g_X12_timesTold S) 99 64)) 135 (((g_X12_timesTold S) 99 65).toInt.toNat) (f_X12_timesTold S)) R _
              refine u_iast rfl rfl (fun b561 b562 => ?_)
              have hD := hD b561 b562
              show u_P L xs n d m_X12_monthTold 152 [(2, .int (f_X12_timesTold S)), (1, .int (S 99 3)), (0, .ref 100)] [] (z_s (z_s (z_s (g_X12_timesTold S) 134 (((g_X12_timesTold S) 99 65).toInt.toNat) ((g_X12_timesTold S) 99 64)) 135 (((g_X12_timesTold S) 99 65).toInt.toNat) (f_X12_timesTold S)) 136 (((g_X12_timesTold S) 99 65).toInt.toNat) (S 99 3)) R _
              refine u_st rfl (fun _ => rfl) ?_
              refine u_st rfl (fun _ => rfl) ?_
              show u_P L xs n d m_X12_monthTold 154 [(2, .int (f_X12_timesTold S)), (1, .int (S 99 3)), (0, .ref 100)] [.ref 100, .ref 100] (z_s (z_s (z_s (g_X12_timesTold S) 134 (((g_X12_timesTold S) 99 65).toInt.toNat) ((g_X12_timesTold S) 99 64)) 135 (((g_X12_timesTold S) 99 65).toInt.toNat) (f_X12_timesTold S)) 136 (((g_X12_timesTold S) 99 65).toInt.toNat) (S 99 3)) R _
              refine u_getE (v := (g_X12_timesTold S) 99 65) rfl v_tyM rfl ((z_sn (fun h => absurd h.1 (by decide))).trans ((z_sn (fun h => absurd h.1 (by decide))).trans (z_sn (fun h => absurd h.1 (by decide))))) ?_
              refine u_st rfl (fun _ => rfl) ?_
              refine u_st rfl (fun _ => rfl) ?_
              show u_P L xs n d m_X12_monthTold 159 [(2, .int (f_X12_timesTold S)), (1, .int (S 99 3)), (0, .ref 100)] [.int (((g_X12_timesTold S) 99 65) + (Int32.ofInt 1)), .ref 100] (z_s (z_s (z_s (g_X12_timesTold S) 134 (((g_X12_timesTold S) 99 65).toInt.toNat) ((g_X12_timesTold S) 99 64)) 135 (((g_X12_timesTold S) 99 65).toInt.toNat) (f_X12_timesTold S)) 136 (((g_X12_timesTold S) 99 65).toInt.toNat) (S 99 3)) R _
              refine u_put rfl v_tyM rfl ?_
              refine u_st rfl (fun _ => rfl) ?_
              refine u_st rfl (fun _ => rfl) ?_
              show u_P L xs n d m_X12_monthTold 164 [(2, .int (f_X12_timesTold S)), (1, .int (S 99 3)), (0, .ref 100)] [.int (Int32.ofInt 0), .ref 100] (z_s (z_s (z_s (z_s (g_X12_timesTold S) 134 (((g_X12_timesTold S) 99 65).toInt.toNat) ((g_X12_timesTold S) 99 64)) 135 (((g_X12_timesTold S) 99 65).toInt.toNat) (f_X12_timesTold S)) 136 (((g_X12_timesTold S) 99 65).toInt.toNat) (S 99 3)) 99 65 (((g_X12_timesTold S) 99 65) + (Int32.ofInt 1))) R _
              refine u_put rfl v_tyM rfl ?_
              refine u_st rfl (fun _ => rfl) ?_
              refine u_st rfl (fun _ => rfl) ?_
              show u_P L xs n d m_X12_monthTold 169 [(2, .int (f_X12_timesTold S)), (1, .int (S 99 3)), (0, .ref 100)] [.ref 100, .ref 100] (z_s (z_s (z_s (z_s (z_s (g_X12_timesTold S) 134 (((g_X12_timesTold S) 99 65).toInt.toNat) ((g_X12_timesTold S) 99 64)) 135 (((g_X12_timesTold S) 99 65).toInt.toNat) (f_X12_timesTold S)) 136 (((g_X12_timesTold S) 99 65).toInt.toNat) (S 99 3)) 99 65 (((g_X12_timesTold S) 99 65) + (Int32.ofInt 1))) 99 66 (Int32.ofInt 0)) R _
              refine u_getE (v := (g_X12_timesTold S) 99 3) rfl v_tyM rfl ((z_sn (fun h => absurd h.2 (by decide))).trans ((z_sn (fun h => absurd h.2 (by decide))).trans ((z_sn (fun h => absurd h.1 (by decide))).trans ((z_sn (fun h => absurd h.1 (by decide))).trans (z_sn (fun h => absurd h.1 (by decide))))))) ?_
              refine u_st rfl (fun _ => rfl) ?_
              refine u_st rfl (fun _ => rfl) ?_
              show u_P L xs n d m_X12_monthTold 174 [(2, .int (f_X12_timesTold S)), (1, .int (S 99 3)), (0, .ref 100)] [.int (((g_X12_timesTold S) 99 3) + (Int32.ofInt 1)), .ref 100] (z_s (z_s (z_s (z_s (z_s (g_X12_timesTold S) 134 (((g_X12_timesTold S) 99 65).toInt.toNat) ((g_X12_timesTold S) 99 64)) 135 (((g_X12_timesTold S) 99 65).toInt.toNat) (f_X12_timesTold S)) 136 (((g_X12_timesTold S) 99 65).toInt.toNat) (S 99 3)) 99 65 (((g_X12_timesTold S) 99 65) + (Int32.ofInt 1))) 99 66 (Int32.ofInt 0)) R _
              refine u_put rfl v_tyM rfl ?_
              show u_P L xs n d m_X12_monthTold 177 [(2, .int (f_X12_timesTold S)), (1, .int (S 99 3)), (0, .ref 100)] [] (z_s (z_s (z_s (z_s (z_s (z_s (g_X12_timesTold S) 134 (((g_X12_timesTold S) 99 65).toInt.toNat) ((g_X12_timesTold S) 99 64)) 135 (((g_X12_timesTold S) 99 65).toInt.toNat) (f_X12_timesTold S)) 136 (((g_X12_timesTold S) 99 65).toInt.toNat) (S 99 3)) 99 65 (((g_X12_timesTold S) 99 65) + (Int32.ofInt 1))) 99 66 (Int32.ofInt 0)) 99 3 (((g_X12_timesTold S) 99 3) + (Int32.ofInt 1))) R _
              exact u_ret rfl rfl ⟨rfl, rfl, hD⟩
            · have hD := hD.2 h53
              show u_P L xs n d m_X12_monthTold 118 [(2, .int (f_X12_timesTold S)), (1, .int (S 99 3)), (0, .ref 100)] [] (g_X12_timesTold S) R _
              exact u_ret rfl rfl ⟨rfl, rfl, hD⟩
          · have hD := hD.2 h52
            show u_P L xs n d m_X12_monthTold 102 [(2, .int (f_X12_timesTold S)), (1, .int (S 99 3)), (0, .ref 100)] [] (g_X12_timesTold S) R _
            refine u_st rfl (fun _ => rfl) ?_
            refine u_st rfl (fun _ => rfl) ?_
            refine u_st rfl (fun _ => rfl) ?_
            show u_P L xs n d m_X12_monthTold 105 [(2, .int (f_X12_timesTold S)), (1, .int (S 99 3)), (0, .ref 100)] [.ref 100, .int (Int32.ofInt 5), .ref 100] (g_X12_timesTold S) R _
            refine u_getE (v := (g_X12_timesTold S) 99 3) rfl v_tyM rfl rfl ?_
            show u_P L xs n d m_X12_monthTold 108 [(2, .int (f_X12_timesTold S)), (1, .int (S 99 3)), (0, .ref 100)] [.int ((g_X12_timesTold S) 99 3), .int (Int32.ofInt 5), .ref 100] (g_X12_timesTold S) R _
            refine u_cv (rest := []) rfl (by decide) mt_X12_wrongs v_tyM rfl rfl rfl (Nat.le_of_ble_eq_true rfl) (Nat.le_of_ble_eq_true rfl) (Nat.le_of_ble_eq_true rfl) (fun d' => c_X12_wrongs L xs n d' (Int32.ofInt 5) ((g_X12_timesTold S) 99 3) (g_X12_timesTold S) R) ?_
            rintro _ _ _ ⟨rfl, rfl, rfl⟩
            refine u_st rfl (fun _ => rfl) ?_
            show u_P L xs n d m_X12_monthTold 112 [(2, .int (f_X12_timesTold S)), (1, .int (S 99 3)), (0, .ref 100)] [.ref 100] (g_X12_wrongs (Int32.ofInt 5) ((g_X12_timesTold S) 99 3) (g_X12_timesTold S)) R _
            refine u_cv (rest := []) rfl (by decide) mt_X12_isGood v_tyM rfl rfl rfl (Nat.le_of_ble_eq_true rfl) (Nat.le_of_ble_eq_true rfl) (Nat.le_of_ble_eq_true rfl) (fun d' => c_X12_isGood L xs n d' (g_X12_wrongs (Int32.ofInt 5) ((g_X12_timesTold S) 99 3) (g_X12_timesTold S)) R) ?_
            rintro _ _ _ ⟨_, rfl, rfl, rfl, rfl⟩
            show u_P L xs n d m_X12_monthTold 115 [(2, .int (f_X12_timesTold S)), (1, .int (S 99 3)), (0, .ref 100)] [.int (f_X12_isGood (g_X12_wrongs (Int32.ofInt 5) ((g_X12_timesTold S) 99 3) (g_X12_timesTold S)))] (g_X12_wrongs (Int32.ofInt 5) ((g_X12_timesTold S) 99 3) (g_X12_timesTold S)) R _
            refine u_if_ne rfl (fun h57 => ?_) (fun h57 => ?_)
            · have hD := hD.1 h57
              show u_P L xs n d m_X12_monthTold 119 [(2, .int (f_X12_timesTold S)), (1, .int (S 99 3)), (0, .ref 100)] [] (g_X12_wrongs (Int32.ofInt 5) ((g_X12_timesTold S) 99 3) (g_X12_timesTold S)) R _
              refine u_st rfl (fun _ => rfl) ?_
              show u_P L xs n d m_X12_monthTold 120 [(2, .int (f_X12_timesTold S)), (1, .int (S 99 3)), (0, .ref 100)] [.ref 100] (g_X12_wrongs (Int32.ofInt 5) ((g_X12_timesTold S) 99 3) (g_X12_timesTold S)) R _
              refine u_getr rfl v_tyM rfl ?_
              refine u_st rfl (fun _ => rfl) ?_
              show u_P L xs n d m_X12_monthTold 124 [(2, .int (f_X12_timesTold S)), (1, .int (S 99 3)), (0, .ref 100)] [.ref 100, .ref 135] (g_X12_wrongs (Int32.ofInt 5) ((g_X12_timesTold S) 99 3) (g_X12_timesTold S)) R _
              refine u_getE (v := (g_X12_wrongs (Int32.ofInt 5) ((g_X12_timesTold S) 99 3) (g_X12_timesTold S)) 99 65) rfl v_tyM rfl rfl ?_
              refine u_st rfl (fun _ => rfl) ?_
              show u_P L xs n d m_X12_monthTold 128 [(2, .int (f_X12_timesTold S)), (1, .int (S 99 3)), (0, .ref 100)] [.ref 100, .int ((g_X12_wrongs (Int32.ofInt 5) ((g_X12_timesTold S) 99 3) (g_X12_timesTold S)) 99 65), .ref 135] (g_X12_wrongs (Int32.ofInt 5) ((g_X12_timesTold S) 99 3) (g_X12_timesTold S)) R _
              refine u_getE (v := (g_X12_wrongs (Int32.ofInt 5) ((g_X12_timesTold S) 99 3) (g_X12_timesTold S)) 99 64) rfl v_tyM rfl rfl ?_
              show u_P L xs n d m_X12_monthTold 131 [(2, .int (f_X12_timesTold S)), (1, .int (S 99 3)), (0, .ref 100)] [.int ((g_X12_wrongs (Int32.ofInt 5) ((g_X12_timesTold S) 99 3) (g_X12_timesTold S)) 99 64), .int ((g_X12_wrongs (Int32.ofInt 5) ((g_X12_timesTold S) 99 3) (g_X12_timesTold S)) 99 65), .ref 135] (g_X12_wrongs (Int32.ofInt 5) ((g_X12_timesTold S) 99 3) (g_X12_timesTold S)) R _
              refine u_iast rfl rfl (fun b581 b582 => ?_)
              have hD := hD b581 b582
              show u_P L xs n d m_X12_monthTold 132 [(2, .int (f_X12_timesTold S)), (1, .int (S 99 3)), (0, .ref 100)] [] (z_s (g_X12_wrongs (Int32.ofInt 5) ((g_X12_timesTold S) 99 3) (g_X12_timesTold S)) 134 (((g_X12_wrongs (Int32.ofInt 5) ((g_X12_timesTold S) 99 3) (g_X12_timesTold S)) 99 65).toInt.toNat) ((g_X12_wrongs (Int32.ofInt 5) ((g_X12_timesTold S) 99 3) (g_X12_timesTold S)) 99 64)) R _
              refine u_st rfl (fun _ => rfl) ?_
              show u_P L xs n d m_X12_monthTold 133 [(2, .int (f_X12_timesTold S)), (1, .int (S 99 3)), (0, .ref 100)] [.ref 100] (z_s (g_X12_wrongs (Int32.ofInt 5) ((g_X12_timesTold S) 99 3) (g_X12_timesTold S)) 134 (((g_X12_wrongs (Int32.ofInt 5) ((g_X12_timesTold S) 99 3) (g_X12_timesTold S)) 99 65).toInt.toNat) ((g_X12_wrongs (Int32.ofInt 5) ((g_X12_timesTold S) 99 3) (g_X12_timesTold S)) 99 64)) R _
              refine u_getr rfl v_tyM rfl ?_
              refine u_st rfl (fun _ => rfl) ?_
              show u_P L xs n d m_X12_monthTold 137 [(2, .int (f_X12_timesTold S)), (1, .int (S 99 3)), (0, .ref 100)] [.ref 100, .ref 136] (z_s (g_X12_wrongs (Int32.ofInt 5) ((g_X12_timesTold S) 99 3) (g_X12_timesTold S)) 134 (((g_X12_wrongs (Int32.ofInt 5) ((g_X12_timesTold S) 99 3) (g_X12_timesTold S)) 99 65).toInt.toNat) ((g_X12_wrongs (Int32.ofInt 5) ((g_X12_timesTold S) 99 3) (g_X12_timesTold S)) 99 64)) R _
              refine u_getE (v := (g_X12_wrongs (Int32.ofInt 5) ((g_X12_timesTold S) 99 3) (g_X12_timesTold S)) 99 65) rfl v_tyM rfl (z_sn (fun h => absurd h.1 (by decide))) ?_
              refine u_st rfl (fun _ => rfl) ?_
              show u_P L xs n d m_X12_monthTold 141 [(2, .int (f_X12_timesTold S)), (1, .int (S 99 3)), (0, .ref 100)] [.int (f_X12_timesTold S), .int ((g_X12_wrongs (Int32.ofInt 5) ((g_X12_timesTold S) 99 3) (g_X12_timesTold S)) 99 65), .ref 136] (z_s (g_X12_wrongs (Int32.ofInt 5) ((g_X12_timesTold S) 99 3) (g_X12_timesTold S)) 134 (((g_X12_wrongs (Int32.ofInt 5) ((g_X12_timesTold S) 99 3) (g_X12_timesTold S)) 99 65).toInt.toNat) ((g_X12_wrongs (Int32.ofInt 5) ((g_X12_timesTold S) 99 3) (g_X12_timesTold S)) 99 64)) R _
              refine u_iast rfl rfl (fun b591 b592 => ?_)
              have hD := hD b591 b592
              show u_P L xs n d m_X12_monthTold 142 [(2, .int (f_X12_timesTold S)), (1, .int (S 99 3)), (0, .ref 100)] [] (z_s (z_s (g_X12_wrongs (Int32.ofInt 5) ((g_X12_timesTold S) 99 3) (g_X12_timesTold S)) 134 (((g_X12_wrongs (Int32.ofInt 5) ((g_X12_timesTold S) 99 3) (g_X12_timesTold S)) 99 65).toInt.toNat) ((g_X12_wrongs (Int32.ofInt 5) ((g_X12_timesTold S) 99 3) (g_X12_timesTold S)) 99 64)) 135 (((g_X12_wrongs (Int32.ofInt 5) ((g_X12_timesTold S) 99 3) (g_X12_timesTold S)) 99 65).toInt.toNat) (f_X12_timesTold S)) R _
              refine u_st rfl (fun _ => rfl) ?_
              show u_P L xs n d m_X12_monthTold 143 [(2, .int (f_X12_timesTold S)), (1, .int (S 99 3)), (0, .ref 100)] [.ref 100] (z_s (z_s (g_X12_wrongs (Int32.ofInt 5) ((g_X12_timesTold S) 99 3) (g_X12_timesTold S)) 134 (((g_X12_wrongs (Int32.ofInt 5) ((g_X12_timesTold S) 99 3) (g_X12_timesTold S)) 99 65).toInt.toNat) ((g_X12_wrongs (Int32.ofInt 5) ((g_X12_timesTold S) 99 3) (g_X12_timesTold S)) 99 64)) 135 (((g_X12_wrongs (Int32.ofInt 5) ((g_X12_timesTold S) 99 3) (g_X12_timesTold S)) 99 65).toInt.toNat) (f_X12_timesTold S)) R _
              refine u_getr rfl v_tyM rfl ?_
              refine u_st rfl (fun _ => rfl) ?_
              show u_P L xs n d m_X12_monthTold 147 [(2, .int (f_X12_timesTold S)), (1, .int (S 99 3)), (0, .ref 100)] [.ref 100, .ref 137] (z_s (z_s (g_X12_wrongs (Int32.ofInt 5) ((g_X12_timesTold S) 99 3) (g_X12_timesTold S)) 134 (((g_X12_wrongs (Int32.ofInt 5) ((g_X12_timesTold S) 99 3) (g_X12_timesTold S)) 99 65).toInt.toNat) ((g_X12_wrongs (Int32.ofInt 5) ((g_X12_timesTold S) 99 3) (g_X12_timesTold S)) 99 64)) 135 (((g_X12_wrongs (Int32.ofInt 5) ((g_X12_timesTold S) 99 3) (g_X12_timesTold S)) 99 65).toInt.toNat) (f_X12_timesTold S)) R _
              refine u_getE (v := (g_X12_wrongs (Int32.ofInt 5) ((g_X12_timesTold S) 99 3) (g_X12_timesTold S)) 99 65) rfl v_tyM rfl ((z_sn (fun h => absurd h.1 (by decide))).trans (z_sn (fun h => absurd h.1 (by decide)))) ?_
              refine u_st rfl (fun _ => rfl) ?_
              show u_P L xs n d m_X12_monthTold 151 [(2, .int (f_X12_timesTold S)), (1, .int (S 99 3)), (0, .ref 100)] [.int (S 99 3), .int ((g_X12_wrongs (Int32.ofInt 5) ((g_X12_timesTold S) 99 3) (g_X12_timesTold S)) 99 65), .ref 137] (z_s (z_s (g_X12_wrongs (Int32.ofInt 5) ((g_X12_timesTold S) 99 3) (g_X12_timesTold S)) 134 (((g_X12_wrongs (Int32.ofInt 5) ((g_X12_timesTold S) 99 3) (g_X12_timesTold S)) 99 65).toInt.toNat) ((g_X12_wrongs (Int32.ofInt 5) ((g_X12_timesTold S) 99 3) (g_X12_timesTold S)) 99 64)) 135 (((g_X12_wrongs (Int32.ofInt 5) ((g_X12_timesTold S) 99 3) (g_X12_timesTold S)) 99 65).toInt.toNat) (f_X12_timesTold S)) R _
              refine u_iast rfl rfl (fun b601 b602 => ?_)
              have hD := hD b601 b602
              show u_P L xs n d m_X12_monthTold 152 [(2, .int (f_X12_timesTold S)), (1, .int (S 99 3)), (0, .ref 100)] [] (z_s (z_s (z_s (g_X12_wrongs (Int32.ofInt 5) ((g_X12_timesTold S) 99 3) (g_X12_timesTold S)) 134 (((g_X12_wrongs (Int32.ofInt 5) ((g_X12_timesTold S) 99 3) (g_X12_timesTold S)) 99 65).toInt.toNat) ((g_X12_wrongs (Int32.ofInt 5) ((g_X12_timesTold S) 99 3) (g_X12_timesTold S)) 99 64)) 135 (((g_X12_wrongs (Int32.ofInt 5) ((g_X12_timesTold S) 99 3) (g_X12_timesTold S)) 99 65).toInt.toNat) (f_X12_timesTold S)) 136 (((g_X12_wrongs (Int32.ofInt 5) ((g_X12_timesTold S) 99 3) (g_X12_timesTold S)) 99 65).toInt.toNat) (S 99 3)) R _
              refine u_st rfl (fun _ => rfl) ?_
              refine u_st rfl (fun _ => rfl) ?_
              show u_P L xs n d m_X12_monthTold 154 [(2, .int (f_X12_timesTold S)), (1, .int (S 99 3)), (0, .ref 100)] [.ref 100, .ref 100] (z_s (z_s (z_s (g_X12_wrongs (Int32.ofInt 5) ((g_X12_timesTold S) 99 3) (g_X12_timesTold S)) 134 (((g_X12_wrongs (Int32.ofInt 5) ((g_X12_timesTold S) 99 3) (g_X12_timesTold S)) 99 65).toInt.toNat) ((g_X12_wrongs (Int32.ofInt 5) ((g_X12_timesTold S) 99 3) (g_X12_timesTold S)) 99 64)) 135 (((g_X12_wrongs (Int32.ofInt 5) ((g_X12_timesTold S) 99 3) (g_X12_timesTold S)) 99 65).toInt.toNat) (f_X12_timesTold S)) 136 (((g_X12_wrongs (Int32.ofInt 5) ((g_X12_timesTold S) 99 3) (g_X12_timesTold S)) 99 65).toInt.toNat) (S 99 3)) R _
              refine u_getE (v := (g_X12_wrongs (Int32.ofInt 5) ((g_X12_timesTold S) 99 3) (g_X12_timesTold S)) 99 65) rfl v_tyM rfl ((z_sn (fun h => absurd h.1 (by decide))).trans ((z_sn (fun h => absurd h.1 (by decide))).trans (z_sn (fun h => absurd h.1 (by decide))))) ?_
              refine u_st rfl (fun _ => rfl) ?_
              refine u_st rfl (fun _ => rfl) ?_
              show u_P L xs n d m_X12_monthTold 159 [(2, .int (f_X12_timesTold S)), (1, .int (S 99 3)), (0, .ref 100)] [.int (((g_X12_wrongs (Int32.ofInt 5) ((g_X12_timesTold S) 99 3) (g_X12_timesTold S)) 99 65) + (Int32.ofInt 1)), .ref 100] (z_s (z_s (z_s (g_X12_wrongs (Int32.ofInt 5) ((g_X12_timesTold S) 99 3) (g_X12_timesTold S)) 134 (((g_X12_wrongs (Int32.ofInt 5) ((g_X12_timesTold S) 99 3) (g_X12_timesTold S)) 99 65).toInt.toNat) ((g_X12_wrongs (Int32.ofInt 5) ((g_X12_timesTold S) 99 3) (g_X12_timesTold S)) 99 64)) 135 (((g_X12_wrongs (Int32.ofInt 5) ((g_X12_timesTold S) 99 3) (g_X12_timesTold S)) 99 65).toInt.toNat) (f_X12_timesTold S)) 136 (((g_X12_wrongs (Int32.ofInt 5) ((g_X12_timesTold S) 99 3) (g_X12_timesTold S)) 99 65).toInt.toNat) (S 99 3)) R _
              refine u_put rfl v_tyM rfl ?_
              refine u_st rfl (fun _ => rfl) ?_
              refine u_st rfl (fun _ => rfl) ?_
              show u_P L xs n d m_X12_monthTold 164 [(2, .int (f_X12_timesTold S)), (1, .int (S 99 3)), (0, .ref 100)] [.int (Int32.ofInt 0), .ref 100] (z_s (z_s (z_s (z_s (g_X12_wrongs (Int32.ofInt 5) ((g_X12_timesTold S) 99 3) (g_X12_timesTold S)) 134 (((g_X12_wrongs (Int32.ofInt 5) ((g_X12_timesTold S) 99 3) (g_X12_timesTold S)) 99 65).toInt.toNat) ((g_X12_wrongs (Int32.ofInt 5) ((g_X12_timesTold S) 99 3) (g_X12_timesTold S)) 99 64)) 135 (((g_X12_wrongs (Int32.ofInt 5) ((g_X12_timesTold S) 99 3) (g_X12_timesTold S)) 99 65).toInt.toNat) (f_X12_timesTold S)) 136 (((g_X12_wrongs (Int32.ofInt 5) ((g_X12_timesTold S) 99 3) (g_X12_timesTold S)) 99 65).toInt.toNat) (S 99 3)) 99 65 (((g_X12_wrongs (Int32.ofInt 5) ((g_X12_timesTold S) 99 3) (g_X12_timesTold S)) 99 65) + (Int32.ofInt 1))) R _
              refine u_put rfl v_tyM rfl ?_
              refine u_st rfl (fun _ => rfl) ?_
              refine u_st rfl (fun _ => rfl) ?_
              show u_P L xs n d m_X12_monthTold 169 [(2, .int (f_X12_timesTold S)), (1, .int (S 99 3)), (0, .ref 100)] [.ref 100, .ref 100] (z_s (z_s (z_s (z_s (z_s (g_X12_wrongs (Int32.ofInt 5) ((g_X12_timesTold S) 99 3) (g_X12_timesTold S)) 134 (((g_X12_wrongs (Int32.ofInt 5) ((g_X12_timesTold S) 99 3) (g_X12_timesTold S)) 99 65).toInt.toNat) ((g_X12_wrongs (Int32.ofInt 5) ((g_X12_timesTold S) 99 3) (g_X12_timesTold S)) 99 64)) 135 (((g_X12_wrongs (Int32.ofInt 5) ((g_X12_timesTold S) 99 3) (g_X12_timesTold S)) 99 65).toInt.toNat) (f_X12_timesTold S)) 136 (((g_X12_wrongs (Int32.ofInt 5) ((g_X12_timesTold S) 99 3) (g_X12_timesTold S)) 99 65).toInt.toNat) (S 99 3)) 99 65 (((g_X12_wrongs (Int32.ofInt 5) ((g_X12_timesTold S) 99 3) (g_X12_timesTold S)) 99 65) + (Int32.ofInt 1))) 99 66 (Int32.ofInt 0)) R _
              refine u_getE (v := (g_X12_wrongs (Int32.ofInt 5) ((g_X12_timesTold S) 99 3) (g_X12_timesTold S)) 99 3) rfl v_tyM rfl ((z_sn (fun h => absurd h.2 (by decide))).trans ((z_sn (fun h => absurd h.2 (by decide))).trans ((z_sn (fun h => absurd h.1 (by decide))).trans ((z_sn (fun h => absurd h.1 (by decide))).trans (z_sn (fun h => absurd h.1 (by decide))))))) ?_
              refine u_st rfl (fun _ => rfl) ?_
              refine u_st rfl (fun _ => rfl) ?_
              show u_P L xs n d m_X12_monthTold 174 [(2, .int (f_X12_timesTold S)), (1, .int (S 99 3)), (0, .ref 100)] [.int (((g_X12_wrongs (Int32.ofInt 5) ((g_X12_timesTold S) 99 3) (g_X12_timesTold S)) 99 3) + (Int32.ofInt 1)), .ref 100] (z_s (z_s (z_s (z_s (z_s (g_X12_wrongs (Int32.ofInt 5) ((g_X12_timesTold S) 99 3) (g_X12_timesTold S)) 134 (((g_X12_wrongs (Int32.ofInt 5) ((g_X12_timesTold S) 99 3) (g_X12_timesTold S)) 99 65).toInt.toNat) ((g_X12_wrongs (Int32.ofInt 5) ((g_X12_timesTold S) 99 3) (g_X12_timesTold S)) 99 64)) 135 (((g_X12_wrongs (Int32.ofInt 5) ((g_X12_timesTold S) 99 3) (g_X12_timesTold S)) 99 65).toInt.toNat) (f_X12_timesTold S)) 136 (((g_X12_wrongs (Int32.ofInt 5) ((g_X12_timesTold S) 99 3) (g_X12_timesTold S)) 99 65).toInt.toNat) (S 99 3)) 99 65 (((g_X12_wrongs (Int32.ofInt 5) ((g_X12_timesTold S) 99 3) (g_X12_timesTold S)) 99 65) + (Int32.ofInt 1))) 99 66 (Int32.ofInt 0)) R _
              refine u_put rfl v_tyM rfl ?_
              show u_P L xs n d m_X12_monthTold 177 [(2, .int (f_X12_timesTold S)), (1, .int (S 99 3)), (0, .ref 100)] [] (z_s (z_s (z_s (z_s (z_s (z_s (g_X12_wrongs (Int32.ofInt 5) ((g_X12_timesTold S) 99 3) (g_X12_timesTold S)) 134 (((g_X12_wrongs (Int32.ofInt 5) ((g_X12_timesTold S) 99 3) (g_X12_timesTold S)) 99 65).toInt.toNat) ((g_X12_wrongs (Int32.ofInt 5) ((g_X12_timesTold S) 99 3) (g_X12_timesTold S)) 99 64)) 135 (((g_X12_wrongs (Int32.ofInt 5) ((g_X12_timesTold S) 99 3) (g_X12_timesTold S)) 99 65).toInt.toNat) (f_X12_timesTold S)) 136 (((g_X12_wrongs (Int32.ofInt 5) ((g_X12_timesTold S) 99 3) (g_X12_timesTold S)) 99 65).toInt.toNat) (S 99 3)) 99 65 (((g_X12_wrongs (Int32.ofInt 5) ((g_X12_timesTold S) 99 3) (g_X12_timesTold S)) 99 65) + (Int32.ofInt 1))) 99 66 (Int32.ofInt 0)) 99 3 (((g_X12_wrongs (Int32.ofInt 5) ((g_X12_timesTold S) 99 3) (g_X12_timesTold S)) 99 3) + (Int32.ofInt 1))) R _
              exact u_ret rfl rfl ⟨rfl, rfl, hD⟩
            · have hD := hD.2 h57
              show u_P L xs n d m_X12_monthTold 118 [(2, .int (f_X12_timesTold S)), (1, .int (S 99 3)), (0, .ref 100)] [] (g_X12_wrongs (Int32.ofInt 5) ((g_X12_timesTold S) 99 3) (g_X12_timesTold S)) R _
              exact u_ret rfl rfl ⟨rfl, rfl, hD⟩
      · have hD := hD.2 h41
        show u_P L xs n d m_X12_monthTold 28 [(1, .int (S 99 3)), (0, .ref 100)] [] S R _
        refine u_st rfl (fun _ => rfl) ?_
        refine u_st rfl (fun _ => rfl) ?_
        show u_P L xs n d m_X12_monthTold 30 [(1, .int (S 99 3)), (0, .ref 100)] [.ref 100, .ref 100] S R _
        refine u_getE (v := S 99 65) rfl v_tyM rfl rfl ?_
        refine u_st rfl (fun _ => rfl) ?_
        refine u_st rfl (fun _ => rfl) ?_
        show u_P L xs n d m_X12_monthTold 35 [(1, .int (S 99 3)), (0, .ref 100)] [.int ((S 99 65) - (Int32.ofInt 1)), .ref 100] S R _
        refine u_put rfl v_tyM rfl ?_
        refine u_st rfl (fun _ => rfl) ?_
        refine u_st rfl (fun _ => rfl) ?_
        show u_P L xs n d m_X12_monthTold 40 [(1, .int (S 99 3)), (0, .ref 100)] [.ref 100, .ref 100] (z_s S 99 65 ((S 99 65) - (Int32.ofInt 1))) R _
        refine u_getE (v := S 99 3) rfl v_tyM rfl (z_sn (fun h => absurd h.2 (by decide))) ?_
        refine u_st rfl (fun _ => rfl) ?_
        refine u_st rfl (fun _ => rfl) ?_
        show u_P L xs n d m_X12_monthTold 45 [(1, .int (S 99 3)), (0, .ref 100)] [.int ((S 99 3) + (Int32.ofInt 1)), .ref 100] (z_s S 99 65 ((S 99 65) - (Int32.ofInt 1))) R _
        refine u_put rfl v_tyM rfl ?_
        refine u_st rfl (fun _ => rfl) ?_
        refine u_st rfl (fun _ => rfl) ?_
        show u_P L xs n d m_X12_monthTold 50 [(1, .int (S 99 3)), (0, .ref 100)] [.ref 100, .ref 100] (z_s (z_s S 99 65 ((S 99 65) - (Int32.ofInt 1))) 99 3 ((S 99 3) + (Int32.ofInt 1))) R _
        refine u_getr rfl v_tyM rfl ?_
        refine u_st rfl (fun _ => rfl) ?_
        show u_P L xs n d m_X12_monthTold 54 [(1, .int (S 99 3)), (0, .ref 100)] [.ref 100, .ref 135, .ref 100] (z_s (z_s S 99 65 ((S 99 65) - (Int32.ofInt 1))) 99 3 ((S 99 3) + (Int32.ofInt 1))) R _
        refine u_getE (v := (S 99 65) - (Int32.ofInt 1)) rfl v_tyM rfl ((z_sn (fun h => absurd h.2 (by decide))).trans z_ss) ?_
        show u_P L xs n d m_X12_monthTold 57 [(1, .int (S 99 3)), (0, .ref 100)] [.int ((S 99 65) - (Int32.ofInt 1)), .ref 135, .ref 100] (z_s (z_s S 99 65 ((S 99 65) - (Int32.ofInt 1))) 99 3 ((S 99 3) + (Int32.ofInt 1))) R _
        refine u_ialdE (v := S 134 (((S 99 65) - (Int32.ofInt 1)).toInt.toNat)) rfl rfl ((z_sn (fun h => absurd h.1 (by decide))).trans (z_sn (fun h => absurd h.1 (by decide)))) (fun b611 b612 => ?_)
        have hD := hD b611 b612
        show u_P L xs n d m_X12_monthTold 58 [(1, .int (S 99 3)), (0, .ref 100)] [.int (S 134 (((S 99 65) - (Int32.ofInt 1)).toInt.toNat)), .ref 100] (z_s (z_s S 99 65 ((S 99 65) - (Int32.ofInt 1))) 99 3 ((S 99 3) + (Int32.ofInt 1))) R _
        refine u_st rfl (fun _ => rfl) ?_
        show u_P L xs n d m_X12_monthTold 59 [(1, .int (S 99 3)), (0, .ref 100)] [.ref 100, .int (S 134 (((S 99 65) - (Int32.ofInt 1)).toInt.toNat)), .ref 100] (z_s (z_s S 99 65 ((S 99 65) - (Int32.ofInt 1))) 99 3 ((S 99 3) + (Int32.ofInt 1))) R _
        refine u_getr rfl v_tyM rfl ?_
        refine u_st rfl (fun _ => rfl) ?_
        show u_P L xs n d m_X12_monthTold 63 [(1, .int (S 99 3)), (0, .ref 100)] [.ref 100, .ref 136, .int (S 134 (((S 99 65) - (Int32.ofInt 1)).toInt.toNat)), .ref 100] (z_s (z_s S 99 65 ((S 99 65) - (Int32.ofInt 1))) 99 3 ((S 99 3) + (Int32.ofInt 1))) R _
        refine u_getE (v := (S 99 65) - (Int32.ofInt 1)) rfl v_tyM rfl ((z_sn (fun h => absurd h.2 (by decide))).trans z_ss) ?_
        show u_P L xs n d m_X12_monthTold 66 [(1, .int (S 99 3)), (0, .ref 100)] [.int ((S 99 65) - (Int32.ofInt 1)), .ref 136, .int (S 134 (((S 99 65) - (Int32.ofInt 1)).toInt.toNat)), .ref 100] (z_s (z_s S 99 65 ((S 99 65) - (Int32.ofInt 1))) 99 3 ((S 99 3) + (Int32.ofInt 1))) R _
        refine u_ialdE (v := S 135 (((S 99 65) - (Int32.ofInt 1)).toInt.toNat)) rfl rfl ((z_sn (fun h => absurd h.1 (by decide))).trans (z_sn (fun h => absurd h.1 (by decide)))) (fun b621 b622 => ?_)
        have hD := hD b621 b622
        show u_P L xs n d m_X12_monthTold 67 [(1, .int (S 99 3)), (0, .ref 100)] [.int (S 135 (((S 99 65) - (Int32.ofInt 1)).toInt.toNat)), .int (S 134 (((S 99 65) - (Int32.ofInt 1)).toInt.toNat)), .ref 100] (z_s (z_s S 99 65 ((S 99 65) - (Int32.ofInt 1))) 99 3 ((S 99 3) + (Int32.ofInt 1))) R _
        refine u_st rfl (fun _ => rfl) ?_
        show u_P L xs n d m_X12_monthTold 68 [(1, .int (S 99 3)), (0, .ref 100)] [.ref 100, .int (S 135 (((S 99 65) - (Int32.ofInt 1)).toInt.toNat)), .int (S 134 (((S 99 65) - (Int32.ofInt 1)).toInt.toNat)), .ref 100] (z_s (z_s S 99 65 ((S 99 65) - (Int32.ofInt 1))) 99 3 ((S 99 3) + (Int32.ofInt 1))) R _
        refine u_getr rfl v_tyM rfl ?_
        refine u_st rfl (fun _ => rfl) ?_
        show u_P L xs n d m_X12_monthTold 72 [(1, .int (S 99 3)), (0, .ref 100)] [.ref 100, .ref 137, .int (S 135 (((S 99 65) - (Int32.ofInt 1)).toInt.toNat)), .int (S 134 (((S 99 65) - (Int32.ofInt 1)).toInt.toNat)), .ref 100] (z_s (z_s S 99 65 ((S 99 65) - (Int32.ofInt 1))) 99 3 ((S 99 3) + (Int32.ofInt 1))) R _
        refine u_getE (v := (S 99 65) - (Int32.ofInt 1)) rfl v_tyM rfl ((z_sn (fun h => absurd h.2 (by decide))).trans z_ss) ?_
        show u_P L xs n d m_X12_monthTold 75 [(1, .int (S 99 3)), (0, .ref 100)] [.int ((S 99 65) - (Int32.ofInt 1)), .ref 137, .int (S 135 (((S 99 65) - (Int32.ofInt 1)).toInt.toNat)), .int (S 134 (((S 99 65) - (Int32.ofInt 1)).toInt.toNat)), .ref 100] (z_s (z_s S 99 65 ((S 99 65) - (Int32.ofInt 1))) 99 3 ((S 99 3) + (Int32.ofInt 1))) R _
        refine u_ialdE (v := S 136 (((S 99 65) - (Int32.ofInt 1)).toInt.toNat)) rfl rfl ((z_sn (fun h => absurd h.1 (by decide))).trans (z_sn (fun h => absurd h.1 (by decide)))) (fun b631 b632 => ?_)
        have hD := hD b631 b632
        show u_P L xs n d m_X12_monthTold 76 [(1, .int (S 99 3)), (0, .ref 100)] [.int (S 136 (((S 99 65) - (Int32.ofInt 1)).toInt.toNat)), .int (S 135 (((S 99 65) - (Int32.ofInt 1)).toInt.toNat)), .int (S 134 (((S 99 65) - (Int32.ofInt 1)).toInt.toNat)), .ref 100] (z_s (z_s S 99 65 ((S 99 65) - (Int32.ofInt 1))) 99 3 ((S 99 3) + (Int32.ofInt 1))) R _
        refine u_cv (rest := []) rfl (by decide) mt_X12_repeats v_tyM rfl rfl rfl (Nat.le_of_ble_eq_true rfl) (Nat.le_of_ble_eq_true rfl) (Nat.le_of_ble_eq_true rfl) (fun d' => c_X12_repeats L xs n d' (S 134 (((S 99 65) - (Int32.ofInt 1)).toInt.toNat)) (S 135 (((S 99 65) - (Int32.ofInt 1)).toInt.toNat)) (S 136 (((S 99 65) - (Int32.ofInt 1)).toInt.toNat)) (z_s (z_s S 99 65 ((S 99 65) - (Int32.ofInt 1))) 99 3 ((S 99 3) + (Int32.ofInt 1))) R) ?_
        rintro _ _ _ ⟨rfl, rfl, rfl⟩
        show u_P L xs n d m_X12_monthTold 79 [(1, .int (S 99 3)), (0, .ref 100)] [] (g_X12_repeats (S 134 (((S 99 65) - (Int32.ofInt 1)).toInt.toNat)) (S 135 (((S 99 65) - (Int32.ofInt 1)).toInt.toNat)) (S 136 (((S 99 65) - (Int32.ofInt 1)).toInt.toNat)) (z_s (z_s S 99 65 ((S 99 65) - (Int32.ofInt 1))) 99 3 ((S 99 3) + (Int32.ofInt 1)))) R _
        exact u_ret rfl rfl ⟨rfl, rfl, hD⟩
noncomputable def s_X12_monthTold_244 (x2 : Int32) (x3 : Int32) (S : v_Sf) : (Int32 × v_Sf) ⊕ (v_Sf) := (if x2 ≤ x3 then (Sum.inr (z_s (z_s (z_s S 99 64 ((S 99 64) + x2)) 99 66 (Int32.ofInt 1)) 99 3 ((S 99 3) + (Int32.ofInt 1)))) else (if ¬ (f_X12_here S) = (Int32.ofInt 46) then (Sum.inl ((x3 + (Int32.ofInt 1)), (z_s S 133 (((S 99 64) + x3).toInt.toNat) ((f_X12_here S) - (Int32.ofInt 65))))) else (Sum.inl ((x3 + (Int32.ofInt 1)), (z_s S 133 (((S 99 64) + x3).toInt.toNat) (Int32.ofInt (-1)))))))
noncomputable def F_X12_monthTold  (S : v_Sf) : v_Sf := (if ¬ (f_X12_here S) = (Int32.ofInt 41) then (if ¬ (f_X12_here (g_X12_timesTold S)) = (Int32.ofInt 40) then (if (f_X12_here (g_X12_timesTold S)) = (Int32.ofInt 46) then (if (((g_X12_timesTold S) 99 64) + (f_X12_timesTold S)) ≤ (Int32.ofInt 48) then (if ¬ (f_X12_isGood (g_X12_timesTold S)) = 0 then z_lim (fun p => s_X12_monthTold_244 (f_X12_timesTold S) p.1 p.2) S ((Int32.ofInt 0), (g_X12_timesTold S)) else g_X12_timesTold S) else (if ¬ (f_X12_isGood (g_X12_wrongs (Int32.ofInt 6) (S 99 3) (g_X12_timesTold S))) = 0 then z_lim (fun p => s_X12_monthTold_244 (f_X12_timesTold S) p.1 p.2) S ((Int32.ofInt 0), (g_X12_wrongs (Int32.ofInt 6) (S 99 3) (g_X12_timesTold S))) else g_X12_wrongs (Int32.ofInt 6) (S 99 3) (g_X12_timesTold S))) else (if ¬ (z_in ((f_X12_here (g_X12_timesTold S))) 65 74) = 0 then (if (((g_X12_timesTold S) 99 64) + (f_X12_timesTold S)) ≤ (Int32.ofInt 48) then (if ¬ (f_X12_isGood (g_X12_timesTold S)) = 0 then z_lim (fun p => s_X12_monthTold_244 (f_X12_timesTold S) p.1 p.2) S ((Int32.ofInt 0), (g_X12_timesTold S)) else g_X12_timesTold S) else (if ¬ (f_X12_isGood (g_X12_wrongs (Int32.ofInt 6) (S 99 3) (g_X12_timesTold S))) = 0 then z_lim (fun p => s_X12_monthTold_244 (f_X12_timesTold S) p.1 p.2) S ((Int32.ofInt 0), (g_X12_wrongs (Int32.ofInt 6) (S 99 3) (g_X12_timesTold S))) else g_X12_wrongs (Int32.ofInt 6) (S 99 3) (g_X12_timesTold S))) else (if ¬ (f_X12_isGood (g_X12_wrongs (Int32.ofInt 1) ((g_X12_timesTold S) 99 3) (g_X12_timesTold S))) = 0 then z_lim (fun p => s_X12_monthTold_244 (f_X12_timesTold S) p.1 p.2) S ((Int32.ofInt 0), (g_X12_wrongs (Int32.ofInt 1) ((g_X12_timesTold S) 99 3) (g_X12_timesTold S))) else g_X12_wrongs (Int32.ofInt 1) ((g_X12_timesTold S) 99 3) (g_X12_timesTold S)))) else (if ¬ ((g_X12_timesTold S) 99 65) = (Int32.ofInt 2) then (if ¬ (f_X12_isGood (g_X12_timesTold S)) = 0 then z_s (z_s (z_s (z_s (z_s (z_s (g_X12_timesTold S) 134 (((g_X12_timesTold S) 99 65).toInt.toNat) ((g_X12_timesTold S) 99 64)) 135 (((g_X12_timesTold S) 99 65).toInt.toNat) (f_X12_timesTold S)) 136 (((g_X12_timesTold S) 99 65).toInt.toNat) (S 99 3)) 99 65 (((g_X12_timesTold S) 99 65) + (Int32.ofInt 1))) 99 66 (Int32.ofInt 0)) 99 3 (((g_X12_timesTold S) 99 3) + (Int32.ofInt 1)) else g_X12_timesTold S) else (if ¬ (f_X12_isGood (g_X12_wrongs (Int32.ofInt 5) ((g_X12_timesTold S) 99 3) (g_X12_timesTold S))) = 0 then z_s (z_s (z_s (z_s (z_s (z_s (g_X12_wrongs (Int32.ofInt 5) ((g_X12_timesTold S) 99 3) (g_X12_timesTold S)) 134 (((g_X12_wrongs (Int32.ofInt 5) ((g_X12_timesTold S) 99 3) (g_X12_timesTold S)) 99 65).toInt.toNat) ((g_X12_wrongs (Int32.ofInt 5) ((g_X12_timesTold S) 99 3) (g_X12_timesTold S)) 99 64)) 135 (((g_X12_wrongs (Int32.ofInt 5) ((g_X12_timesTold S) 99 3) (g_X12_timesTold S)) 99 65).toInt.toNat) (f_X12_timesTold S)) 136 (((g_X12_wrongs (Int32.ofInt 5) ((g_X12_timesTold S) 99 3) (g_X12_timesTold S)) 99 65).toInt.toNat) (S 99 3)) 99 65 (((g_X12_wrongs (Int32.ofInt 5) ((g_X12_timesTold S) 99 3) (g_X12_timesTold S)) 99 65) + (Int32.ofInt 1))) 99 66 (Int32.ofInt 0)) 99 3 (((g_X12_wrongs (Int32.ofInt 5) ((g_X12_timesTold S) 99 3) (g_X12_timesTold S)) 99 3) + (Int32.ofInt 1)) else g_X12_wrongs (Int32.ofInt 5) ((g_X12_timesTold S) 99 3) (g_X12_timesTold S)))) else (if (S 99 65) ≤ 0 then (if ¬ (f_X12_here (g_X12_timesTold S)) = (Int32.ofInt 40) then (if (f_X12_here (g_X12_timesTold S)) = (Int32.ofInt 46) then (if (((g_X12_timesTold S) 99 64) + (f_X12_timesTold S)) ≤ (Int32.ofInt 48) then (if ¬ (f_X12_isGood (g_X12_timesTold S)) = 0 then z_lim (fun p => s_X12_monthTold_244 (f_X12_timesTold S) p.1 p.2) S ((Int32.ofInt 0), (g_X12_timesTold S)) else g_X12_timesTold S) else (if ¬ (f_X12_isGood (g_X12_wrongs (Int32.ofInt 6) (S 99 3) (g_X12_timesTold S))) = 0 then z_lim (fun p => s_X12_monthTold_244 (f_X12_timesTold S) p.1 p.2) S ((Int32.ofInt 0), (g_X12_wrongs (Int32.ofInt 6) (S 99 3) (g_X12_timesTold S))) else g_X12_wrongs (Int32.ofInt 6) (S 99 3) (g_X12_timesTold S))) else (if ¬ (z_in ((f_X12_here (g_X12_timesTold S))) 65 74) = 0 then (if (((g_X12_timesTold S) 99 64) + (f_X12_timesTold S)) ≤ (Int32.ofInt 48) then (if ¬ (f_X12_isGood (g_X12_timesTold S)) = 0 then z_lim (fun p => s_X12_monthTold_244 (f_X12_timesTold S) p.1 p.2) S ((Int32.ofInt 0), (g_X12_timesTold S)) else g_X12_timesTold S) else (if ¬ (f_X12_isGood (g_X12_wrongs (Int32.ofInt 6) (S 99 3) (g_X12_timesTold S))) = 0 then z_lim (fun p => s_X12_monthTold_244 (f_X12_timesTold S) p.1 p.2) S ((Int32.ofInt 0), (g_X12_wrongs (Int32.ofInt 6) (S 99 3) (g_X12_timesTold S))) else g_X12_wrongs (Int32.ofInt 6) (S 99 3) (g_X12_timesTold S))) else (if ¬ (f_X12_isGood (g_X12_wrongs (Int32.ofInt 1) ((g_X12_timesTold S) 99 3) (g_X12_timesTold S))) = 0 then z_lim (fun p => s_X12_monthTold_244 (f_X12_timesTold S) p.1 p.2) S ((Int32.ofInt 0), (g_X12_wrongs (Int32.ofInt 1) ((g_X12_timesTold S) 99 3) (g_X12_timesTold S))) else g_X12_wrongs (Int32.ofInt 1) ((g_X12_timesTold S) 99 3) (g_X12_timesTold S)))) else (if ¬ ((g_X12_timesTold S) 99 65) = (Int32.ofInt 2) then (if ¬ (f_X12_isGood (g_X12_timesTold S)) = 0 then z_s (z_s (z_s (z_s (z_s (z_s (g_X12_timesTold S) 134 (((g_X12_timesTold S) 99 65).toInt.toNat) ((g_X12_timesTold S) 99 64)) 135 (((g_X12_timesTold S) 99 65).toInt.toNat) (f_X12_timesTold S)) 136 (((g_X12_timesTold S) 99 65).toInt.toNat) (S 99 3)) 99 65 (((g_X12_timesTold S) 99 65) + (Int32.ofInt 1))) 99 66 (Int32.ofInt 0)) 99 3 (((g_X12_timesTold S) 99 3) + (Int32.ofInt 1)) else g_X12_timesTold S) else (if ¬ (f_X12_isGood (g_X12_wrongs (Int32.ofInt 5) ((g_X12_timesTold S) 99 3) (g_X12_timesTold S))) = 0 then z_s (z_s (z_s (z_s (z_s (z_s (g_X12_wrongs (Int32.ofInt 5) ((g_X12_timesTold S) 99 3) (g_X12_timesTold S)) 134 (((g_X12_wrongs (Int32.ofInt 5) ((g_X12_timesTold S) 99 3) (g_X12_timesTold S)) 99 65).toInt.toNat) ((g_X12_wrongs (Int32.ofInt 5) ((g_X12_timesTold S) 99 3) (g_X12_timesTold S)) 99 64)) 135 (((g_X12_wrongs (Int32.ofInt 5) ((g_X12_timesTold S) 99 3) (g_X12_timesTold S)) 99 65).toInt.toNat) (f_X12_timesTold S)) 136 (((g_X12_wrongs (Int32.ofInt 5) ((g_X12_timesTold S) 99 3) (g_X12_timesTold S)) 99 65).toInt.toNat) (S 99 3)) 99 65 (((g_X12_wrongs (Int32.ofInt 5) ((g_X12_timesTold S) 99 3) (g_X12_timesTold S)) 99 65) + (Int32.ofInt 1))) 99 66 (Int32.ofInt 0)) 99 3 (((g_X12_wrongs (Int32.ofInt 5) ((g_X12_timesTold S) 99 3) (g_X12_timesTold S)) 99 3) + (Int32.ofInt 1)) else g_X12_wrongs (Int32.ofInt 5) ((g_X12_timesTold S) 99 3) (g_X12_timesTold S)))) else (if (S 99 66) = 0 then (if ¬ (f_X12_here (g_X12_timesTold S)) = (Int32.ofInt 40) then (if (f_X12_here (g_X12_timesTold S)) = (Int32.ofInt 46) then (if (((g_X12_timesTold S) 99 64) + (f_X12_timesTold S)) ≤ (Int32.ofInt 48) then (if ¬ (f_X12_isGood (g_X12_timesTold S)) = 0 then z_lim (fun p => s_X12_monthTold_244 (f_X12_timesTold S) p.1 p.2) S ((Int32.ofInt 0), (g_X12_timesTold S)) else g_X12_timesTold S) else (if ¬ (f_X12_isGood (g_X12_wrongs (Int32.ofInt 6) (S 99 3) (g_X12_timesTold S))) = 0 then z_lim (fun p => s_X12_monthTold_244 (f_X12_timesTold S) p.1 p.2) S ((Int32.ofInt 0), (g_X12_wrongs (Int32.ofInt 6) (S 99 3) (g_X12_timesTold S))) else g_X12_wrongs (Int32.ofInt 6) (S 99 3) (g_X12_timesTold S))) else (if ¬ (z_in ((f_X12_here (g_X12_timesTold S))) 65 74) = 0 then (if (((g_X12_timesTold S) 99 64) + (f_X12_timesTold S)) ≤ (Int32.ofInt 48) then (if ¬ (f_X12_isGood (g_X12_timesTold S)) = 0 then z_lim (fun p => s_X12_monthTold_244 (f_X12_timesTold S) p.1 p.2) S ((Int32.ofInt 0), (g_X12_timesTold S)) else g_X12_timesTold S) else (if ¬ (f_X12_isGood (g_X12_wrongs (Int32.ofInt 6) (S 99 3) (g_X12_timesTold S))) = 0 then z_lim (fun p => s_X12_monthTold_244 (f_X12_timesTold S) p.1 p.2) S ((Int32.ofInt 0), (g_X12_wrongs (Int32.ofInt 6) (S 99 3) (g_X12_timesTold S))) else g_X12_wrongs (Int32.ofInt 6) (S 99 3) (g_X12_timesTold S))) else (if ¬ (f_X12_isGood (g_X12_wrongs (Int32.ofInt 1) ((g_X12_timesTold S) 99 3) (g_X12_timesTold S))) = 0 then z_lim (fun p => s_X12_monthTold_244 (f_X12_timesTold S) p.1 p.2) S ((Int32.ofInt 0), (g_X12_wrongs (Int32.ofInt 1) ((g_X12_timesTold S) 99 3) (g_X12_timesTold S))) else g_X12_wrongs (Int32.ofInt 1) ((g_X12_timesTold S) 99 3) (g_X12_timesTold S)))) else (if ¬ ((g_X12_timesTold S) 99 65) = (Int32.ofInt 2) then (if ¬ (f_X12_isGood (g_X12_timesTold S)) = 0 then z_s (z_s (z_s (z_s (z_s (z_s (g_X12_timesTold S) 134 (((g_X12_timesTold S) 99 65).toInt.toNat) ((g_X12_timesTold S) 99 64)) 135 (((g_X12_timesTold S) 99 65).toInt.toNat) (f_X12_timesTold S)) 136 (((g_X12_timesTold S) 99 65).toInt.toNat) (S 99 3)) 99 65 (((g_X12_timesTold S) 99 65) + (Int32.ofInt 1))) 99 66 (Int32.ofInt 0)) 99 3 (((g_X12_timesTold S) 99 3) + (Int32.ofInt 1)) else g_X12_timesTold S) else (if ¬ (f_X12_isGood (g_X12_wrongs (Int32.ofInt 5) ((g_X12_timesTold S) 99 3) (g_X12_timesTold S))) = 0 then z_s (z_s (z_s (z_s (z_s (z_s (g_X12_wrongs (Int32.ofInt 5) ((g_X12_timesTold S) 99 3) (g_X12_timesTold S)) 134 (((g_X12_wrongs (Int32.ofInt 5) ((g_X12_timesTold S) 99 3) (g_X12_timesTold S)) 99 65).toInt.toNat) ((g_X12_wrongs (Int32.ofInt 5) ((g_X12_timesTold S) 99 3) (g_X12_timesTold S)) 99 64)) 135 (((g_X12_wrongs (Int32.ofInt 5) ((g_X12_timesTold S) 99 3) (g_X12_timesTold S)) 99 65).toInt.toNat) (f_X12_timesTold S)) 136 (((g_X12_wrongs (Int32.ofInt 5) ((g_X12_timesTold S) 99 3) (g_X12_timesTold S)) 99 65).toInt.toNat) (S 99 3)) 99 65 (((g_X12_wrongs (Int32.ofInt 5) ((g_X12_timesTold S) 99 3) (g_X12_timesTold S)) 99 65) + (Int32.ofInt 1))) 99 66 (Int32.ofInt 0)) 99 3 (((g_X12_wrongs (Int32.ofInt 5) ((g_X12_timesTold S) 99 3) (g_X12_timesTold S)) 99 3) + (Int32.ofInt 1)) else g_X12_wrongs (Int32.ofInt 5) ((g_X12_timesTold S) 99 3) (g_X12_timesTold S)))) else g_X12_repeats (S 134 (((S 99 65) - (Int32.ofInt 1)).toInt.toNat)) (S 135 (((S 99 65) - (Int32.ofInt 1)).toInt.toNat)) (S 136 (((S 99 65) - (Int32.ofInt 1)).toInt.toNat)) (z_s (z_s S 99 65 ((S 99 65) - (Int32.ofInt 1))) 99 3 ((S 99 3) + (Int32.ofInt 1))))))
noncomputable def g_X12_monthTold  (S : v_Sf) : v_Sf := F_X12_monthTold  S
theorem c_X12_monthTold (L : Nat) (xs : Nat → Int32) (n d : Nat)  (S : v_Sf) (R : v_Rf) : u_P L xs n d m_X12_monthTold 0 (lv_args 0 [.ref 100]) [] S R (z_V R (fun S1 => g_X12_monthTold  S = S1)) := by
  refine w_X12_monthTold L xs  (fun y2 y3 T => f_X12_timesTold S = y2 ∧ (∀ N out, z_itr (fun p => s_X12_monthTold_244 (f_X12_timesTold S) p.1 p.2) N (y3, T) = some out → F_X12_monthTold  S = out)) (fun S1 => g_X12_monthTold  S = S1) ?_ n d S ?_
  · rintro _ x3 S1 ⟨rfl, e⟩
    unfold D_X12_monthTold_244
    refine ⟨fun q1 => ?_, fun q1 => ?_⟩
    · have e := (e 1 _ (z_itr_r (by show s_X12_monthTold_244 (f_X12_timesTold S) x3 S1 = _; rw [s_X12_monthTold_244, if_pos q1]))).symm
      exact e.symm
    · refine ⟨fun q2 => ?_, fun q2 => ?_⟩
      · intro _ _
        exact ⟨rfl, fun N out h => e (N + 1) out ((z_itr_l (by show s_X12_monthTold_244 (f_X12_timesTold S) x3 S1 = _; rw [s_X12_monthTold_244, if_neg q1, if_pos q2])).trans h)⟩
      · intro _ _
        exact ⟨rfl, fun N out h => e (N + 1) out ((z_itr_l (by show s_X12_monthTold_244 (f_X12_timesTold S) x3 S1 = _; rw [s_X12_monthTold_244, if_neg q1, if_neg q2])).trans h)⟩
  · unfold D_X12_monthTold
    refine ⟨fun q3 => ?_, fun q3 => ?_⟩
    · refine ⟨fun q4 => ?_, fun q4 => ?_⟩
      · refine ⟨fun q5 => ?_, fun q5 => ?_⟩
        · refine ⟨fun q6 => ?_, fun q6 => ?_⟩
          · refine ⟨fun q7 => ?_, fun q7 => ?_⟩
            · have e : z_lim (fun p => s_X12_monthTold_244 (f_X12_timesTold S) p.1 p.2) S ((Int32.ofInt 0), (g_X12_timesTold S)) = F_X12_monthTold  S := by rw [F_X12_monthTold, if_pos q3, if_pos q4, if_pos q5, if_pos q6, if_pos q7]
              exact ⟨rfl, fun N out h => e.symm.trans (z_lim_eq h)⟩
            · have e : g_X12_timesTold S = F_X12_monthTold  S := by rw [F_X12_monthTold, if_pos q3, if_pos q4, if_pos q5, if_pos q6, if_neg q7]
              exact e.symm
          · refine ⟨fun q8 => ?_, fun q8 => ?_⟩
            · have e : z_lim (fun p => s_X12_monthTold_244 (f_X12_timesTold S) p.1 p.2) S ((Int32.ofInt 0), (g_X12_wrongs (Int32.ofInt 6) (S 99 3) (g_X12_timesTold S))) = F_X12_monthTold  S := by rw [F_X12_monthTold, if_pos q3, if_pos q4, if_pos q5, if_neg q6, if_pos q8]
              exact ⟨rfl, fun N out h => e.symm.trans (z_lim_eq h)⟩
            · have e : g_X12_wrongs (Int32.ofInt 6) (S 99 3) (g_X12_timesTold S) = F_X12_monthTold  S := by rw [F_X12_monthTold, if_pos q3, if_pos q4, if_pos q5, if_neg q6, if_neg q8]
              exact e.symm
        · refine ⟨fun q9 => ?_, fun q9 => ?_⟩
          · refine ⟨fun q10 => ?_, fun q10 => ?_⟩
            · refine ⟨fun q11 => ?_, fun q11 => ?_⟩
              · have e : z_lim (fun p => s_X12_monthTold_244 (f_X12_timesTold S) p.1 p.2) S ((Int32.ofInt 0), (g_X12_timesTold S)) = F_X12_monthTold  S := by rw [F_X12_monthTold, if_pos q3, if_pos q4, if_neg q5, if_pos q9, if_pos q10, if_pos q11]
                exact ⟨rfl, fun N out h => e.symm.trans (z_lim_eq h)⟩
              · have e : g_X12_timesTold S = F_X12_monthTold  S := by rw [F_X12_monthTold, if_pos q3, if_pos q4, if_neg q5, if_pos q9, if_pos q10, if_neg q11]
                exact e.symm
            · refine ⟨fun q12 => ?_, fun q12 => ?_⟩
              · have e : z_lim (fun p => s_X12_monthTold_244 (f_X12_timesTold S) p.1 p.2) S ((Int32.ofInt 0), (g_X12_wrongs (Int32.ofInt 6) (S 99 3) (g_X12_timesTold S))) = F_X12_monthTold  S := by rw [F_X12_monthTold, if_pos q3, if_pos q4, if_neg q5, if_pos q9, if_neg q10, if_pos q12]
                exact ⟨rfl, fun N out h => e.symm.trans (z_lim_eq h)⟩
              · have e : g_X12_wrongs (Int32.ofInt 6) (S 99 3) (g_X12_timesTold S) = F_X12_monthTold  S := by rw [F_X12_monthTold, if_pos q3, if_pos q4, if_neg q5, if_pos q9, if_neg q10, if_neg q12]
                exact e.symm
          · refine ⟨fun q13 => ?_, fun q13 => ?_⟩
            · have e : z_lim (fun p => s_X12_monthTold_244 (f_X12_timesTold S) p.1 p.2) S ((Int32.ofInt 0), (g_X12_wrongs (Int32.ofInt 1) ((g_X12_timesTold S) 99 3) (g_X12_timesTold S))) = F_X12_monthTold  S := by rw [F_X12_monthTold, if_pos q3, if_pos q4, if_neg q5, if_neg q9, if_pos q13]
              exact ⟨rfl, fun N out h => e.symm.trans (z_lim_eq h)⟩
            · have e : g_X12_wrongs (Int32.ofInt 1) ((g_X12_timesTold S) 99 3) (g_X12_timesTold S) = F_X12_monthTold  S := by rw [F_X12_monthTold, if_pos q3, if_pos q4, if_neg q5, if_neg q9, if_neg q13]
              exact e.symm
      · refine ⟨fun q14 => ?_, fun q14 => ?_⟩
        · refine ⟨fun q15 => ?_, fun q15 => ?_⟩
          · intro _ _
            intro _ _
            intro _ _
            have e : z_s (z_s (z_s (z_s (z_s (z_s (g_X12_timesTold S) 134 (((g_X12_timesTold S) 99 65).toInt.toNat) ((g_X12_timesTold S) 99 64)) 135 (((g_X12_timesTold S) 99 65).toInt.toNat) (f_X12_timesTold S)) 136 (((g_X12_timesTold S) 99 65).toInt.toNat) (S 99 3)) 99 65 (((g_X12_timesTold S) 99 65) + (Int32.ofInt 1))) 99 66 (Int32.ofInt 0)) 99 3 (((g_X12_timesTold S) 99 3) + (Int32.ofInt 1)) = F_X12_monthTold  S := by rw [F_X12_monthTold, if_pos q3, if_neg q4, if_pos q14, if_pos q15]
            exact e.symm
          · have e : g_X12_timesTold S = F_X12_monthTold  S := by rw [F_X12_monthTold, if_pos q3, if_neg q4, if_pos q14, if_neg q15]
            exact e.symm
        · refine ⟨fun q16 => ?_, fun q16 => ?_⟩
          · intro _ _
            intro _ _
            intro _ _
            have e : z_s (z_s (z_s (z_s (z_s (z_s (g_X12_wrongs (Int32.ofInt 5) ((g_X12_timesTold S) 99 3) (g_X12_timesTold S)) 134 (((g_X12_wrongs (Int32.ofInt 5) ((g_X12_timesTold S) 99 3) (g_X12_timesTold S)) 99 65).toInt.toNat) ((g_X12_wrongs (Int32.ofInt 5) ((g_X12_timesTold S) 99 3) (g_X12_timesTold S)) 99 64)) 135 (((g_X12_wrongs (Int32.ofInt 5) ((g_X12_timesTold S) 99 3) (g_X12_timesTold S)) 99 65).toInt.toNat) (f_X12_timesTold S)) 136 (((g_X12_wrongs (Int32.ofInt 5) ((g_X12_timesTold S) 99 3) (g_X12_timesTold S)) 99 65).toInt.toNat) (S 99 3)) 99 65 (((g_X12_wrongs (Int32.ofInt 5) ((g_X12_timesTold S) 99 3) (g_X12_timesTold S)) 99 65) + (Int32.ofInt 1))) 99 66 (Int32.ofInt 0)) 99 3 (((g_X12_wrongs (Int32.ofInt 5) ((g_X12_timesTold S) 99 3) (g_X12_timesTold S)) 99 3) + (Int32.ofInt 1)) = F_X12_monthTold  S := by rw [F_X12_monthTold, if_pos q3, if_neg q4, if_neg q14, if_pos q16]
            exact e.symm
          · have e : g_X12_wrongs (Int32.ofInt 5) ((g_X12_timesTold S) 99 3) (g_X12_timesTold S) = F_X12_monthTold  S := by rw [F_X12_monthTold, if_pos q3, if_neg q4, if_neg q14, if_neg q16]
            exact e.symm
    · refine ⟨fun q17 => ?_, fun q17 => ?_⟩
      · refine ⟨fun q18 => ?_, fun q18 => ?_⟩
        · refine ⟨fun q19 => ?_, fun q19 => ?_⟩
          · refine ⟨fun q20 => ?_, fun q20 => ?_⟩
            · refine ⟨fun q21 => ?_, fun q21 => ?_⟩
              · have e : z_lim (fun p => s_X12_monthTold_244 (f_X12_timesTold S) p.1 p.2) S ((Int32.ofInt 0), (g_X12_timesTold S)) = F_X12_monthTold  S := by rw [F_X12_monthTold, if_neg q3, if_pos q17, if_pos q18, if_pos q19, if_pos q20, if_pos q21]
                exact ⟨rfl, fun N out h => e.symm.trans (z_lim_eq h)⟩
              · have e : g_X12_timesTold S = F_X12_monthTold  S := by rw [F_X12_monthTold, if_neg q3, if_pos q17, if_pos q18, if_pos q19, if_pos q20, if_neg q21]
                exact e.symm
            · refine ⟨fun q22 => ?_, fun q22 => ?_⟩
              · have e : z_lim (fun p => s_X12_monthTold_244 (f_X12_timesTold S) p.1 p.2) S ((Int32.ofInt 0), (g_X12_wrongs (Int32.ofInt 6) (S 99 3) (g_X12_timesTold S))) = F_X12_monthTold  S := by rw [F_X12_monthTold, if_neg q3, if_pos q17, if_pos q18, if_pos q19, if_neg q20, if_pos q22]
                exact ⟨rfl, fun N out h => e.symm.trans (z_lim_eq h)⟩
              · have e : g_X12_wrongs (Int32.ofInt 6) (S 99 3) (g_X12_timesTold S) = F_X12_monthTold  S := by rw [F_X12_monthTold, if_neg q3, if_pos q17, if_pos q18, if_pos q19, if_neg q20, if_neg q22]
                exact e.symm
          · refine ⟨fun q23 => ?_, fun q23 => ?_⟩
            · refine ⟨fun q24 => ?_, fun q24 => ?_⟩
              · refine ⟨fun q25 => ?_, fun q25 => ?_⟩
                · have e : z_lim (fun p => s_X12_monthTold_244 (f_X12_timesTold S) p.1 p.2) S ((Int32.ofInt 0), (g_X12_timesTold S)) = F_X12_monthTold  S := by rw [F_X12_monthTold, if_neg q3, if_pos q17, if_pos q18, if_neg q19, if_pos q23, if_pos q24, if_pos q25]
                  exact ⟨rfl, fun N out h => e.symm.trans (z_lim_eq h)⟩
                · have e : g_X12_timesTold S = F_X12_monthTold  S := by rw [F_X12_monthTold, if_neg q3, if_pos q17, if_pos q18, if_neg q19, if_pos q23, if_pos q24, if_neg q25]
                  exact e.symm
              · refine ⟨fun q26 => ?_, fun q26 => ?_⟩
                · have e : z_lim (fun p => s_X12_monthTold_244 (f_X12_timesTold S) p.1 p.2) S ((Int32.ofInt 0), (g_X12_wrongs (Int32.ofInt 6) (S 99 3) (g_X12_timesTold S))) = F_X12_monthTold  S := by rw [F_X12_monthTold, if_neg q3, if_pos q17, if_pos q18, if_neg q19, if_pos q23, if_neg q24, if_pos q26]
                  exact ⟨rfl, fun N out h => e.symm.trans (z_lim_eq h)⟩
                · have e : g_X12_wrongs (Int32.ofInt 6) (S 99 3) (g_X12_timesTold S) = F_X12_monthTold  S := by rw [F_X12_monthTold, if_neg q3, if_pos q17, if_pos q18, if_neg q19, if_pos q23, if_neg q24, if_neg q26]
                  exact e.symm
            · refine ⟨fun q27 => ?_, fun q27 => ?_⟩
              · have e : z_lim (fun p => s_X12_monthTold_244 (f_X12_timesTold S) p.1 p.2) S ((Int32.ofInt 0), (g_X12_wrongs (Int32.ofInt 1) ((g_X12_timesTold S) 99 3) (g_X12_timesTold S))) = F_X12_monthTold  S := by rw [F_X12_monthTold, if_neg q3, if_pos q17, if_pos q18, if_neg q19, if_neg q23, if_pos q27]
                exact ⟨rfl, fun N out h => e.symm.trans (z_lim_eq h)⟩
              · have e : g_X12_wrongs (Int32.ofInt 1) ((g_X12_timesTold S) 99 3) (g_X12_timesTold S) = F_X12_monthTold  S := by rw [F_X12_monthTold, if_neg q3, if_pos q17, if_pos q18, if_neg q19, if_neg q23, if_neg q27]
                exact e.symm
        · refine ⟨fun q28 => ?_, fun q28 => ?_⟩
          · refine ⟨fun q29 => ?_, fun q29 => ?_⟩
            · intro _ _
              intro _ _
              intro _ _
              have e : z_s (z_s (z_s (z_s (z_s (z_s (g_X12_timesTold S) 134 (((g_X12_timesTold S) 99 65).toInt.toNat) ((g_X12_timesTold S) 99 64)) 135 (((g_X12_timesTold S) 99 65).toInt.toNat) (f_X12_timesTold S)) 136 (((g_X12_timesTold S) 99 65).toInt.toNat) (S 99 3)) 99 65 (((g_X12_timesTold S) 99 65) + (Int32.ofInt 1))) 99 66 (Int32.ofInt 0)) 99 3 (((g_X12_timesTold S) 99 3) + (Int32.ofInt 1)) = F_X12_monthTold  S := by rw [F_X12_monthTold, if_neg q3, if_pos q17, if_neg q18, if_pos q28, if_pos q29]
              exact e.symm
            · have e : g_X12_timesTold S = F_X12_monthTold  S := by rw [F_X12_monthTold, if_neg q3, if_pos q17, if_neg q18, if_pos q28, if_neg q29]
              exact e.symm
          · refine ⟨fun q30 => ?_, fun q30 => ?_⟩
            · intro _ _
              intro _ _
              intro _ _
              have e : z_s (z_s (z_s (z_s (z_s (z_s (g_X12_wrongs (Int32.ofInt 5) ((g_X12_timesTold S) 99 3) (g_X12_timesTold S)) 134 (((g_X12_wrongs (Int32.ofInt 5) ((g_X12_timesTold S) 99 3) (g_X12_timesTold S)) 99 65).toInt.toNat) ((g_X12_wrongs (Int32.ofInt 5) ((g_X12_timesTold S) 99 3) (g_X12_timesTold S)) 99 64)) 135 (((g_X12_wrongs (Int32.ofInt 5) ((g_X12_timesTold S) 99 3) (g_X12_timesTold S)) 99 65).toInt.toNat) (f_X12_timesTold S)) 136 (((g_X12_wrongs (Int32.ofInt 5) ((g_X12_timesTold S) 99 3) (g_X12_timesTold S)) 99 65).toInt.toNat) (S 99 3)) 99 65 (((g_X12_wrongs (Int32.ofInt 5) ((g_X12_timesTold S) 99 3) (g_X12_timesTold S)) 99 65) + (Int32.ofInt 1))) 99 66 (Int32.ofInt 0)) 99 3 (((g_X12_wrongs (Int32.ofInt 5) ((g_X12_timesTold S) 99 3) (g_X12_timesTold S)) 99 3) + (Int32.ofInt 1)) = F_X12_monthTold  S := by rw [F_X12_monthTold, if_neg q3, if_pos q17, if_neg q18, if_neg q28, if_pos q30]
              exact e.symm
            · have e : g_X12_wrongs (Int32.ofInt 5) ((g_X12_timesTold S) 99 3) (g_X12_timesTold S) = F_X12_monthTold  S := by rw [F_X12_monthTold, if_neg q3, if_pos q17, if_neg q18, if_neg q28, if_neg q30]
              exact e.symm
      · refine ⟨fun q31 => ?_, fun q31 => ?_⟩
        · refine ⟨fun q32 => ?_, fun q32 => ?_⟩
          · refine ⟨fun q33 => ?_, fun q33 => ?_⟩
            · refine ⟨fun q34 => ?_, fun q34 => ?_⟩
              · refine ⟨fun q35 => ?_, fun q35 => ?_⟩
                · have e : z_lim (fun p => s_X12_monthTold_244 (f_X12_timesTold S) p.1 p.2) S ((Int32.ofInt 0), (g_X12_timesTold S)) = F_X12_monthTold  S := by rw [F_X12_monthTold, if_neg q3, if_neg q17, if_pos q31, if_pos q32, if_pos q33, if_pos q34, if_pos q35]
                  exact ⟨rfl, fun N out h => e.symm.trans (z_lim_eq h)⟩
                · have e : g_X12_timesTold S = F_X12_monthTold  S := by rw [F_X12_monthTold, if_neg q3, if_neg q17, if_pos q31, if_pos q32, if_pos q33, if_pos q34, if_neg q35]
                  exact e.symm
              · refine ⟨fun q36 => ?_, fun q36 => ?_⟩
                · have e : z_lim (fun p => s_X12_monthTold_244 (f_X12_timesTold S) p.1 p.2) S ((Int32.ofInt 0), (g_X12_wrongs (Int32.ofInt 6) (S 99 3) (g_X12_timesTold S))) = F_X12_monthTold  S := by rw [F_X12_monthTold, if_neg q3, if_neg q17, if_pos q31, if_pos q32, if_pos q33, if_neg q34, if_pos q36]
                  exact ⟨rfl, fun N out h => e.symm.trans (z_lim_eq h)⟩
                · have e : g_X12_wrongs (Int32.ofInt 6) (S 99 3) (g_X12_timesTold S) = F_X12_monthTold  S := by rw [F_X12_monthTold, if_neg q3, if_neg q17, if_pos q31, if_pos q32, if_pos q33, if_neg q34, if_neg q36]
                  exact e.symm
            · refine ⟨fun q37 => ?_, fun q37 => ?_⟩
              · refine ⟨fun q38 => ?_, fun q38 => ?_⟩
                · refine ⟨fun q39 => ?_, fun q39 => ?_⟩
                  · have e : z_lim (fun p => s_X12_monthTold_244 (f_X12_timesTold S) p.1 p.2) S ((Int32.ofInt 0), (g_X12_timesTold S)) = F_X12_monthTold  S := by rw [F_X12_monthTold, if_neg q3, if_neg q17, if_pos q31, if_pos q32, if_neg q33, if_pos q37, if_pos q38, if_pos q39]
                    exact ⟨rfl, fun N out h => e.symm.trans (z_lim_eq h)⟩
                  · have e : g_X12_timesTold S = F_X12_monthTold  S := by rw [F_X12_monthTold, if_neg q3, if_neg q17, if_pos q31, if_pos q32, if_neg q33, if_pos q37, if_pos q38, if_neg q39]
                    exact e.symm
                · refine ⟨fun q40 => ?_, fun q40 => ?_⟩
                  · have e : z_lim (fun p => s_X12_monthTold_244 (f_X12_timesTold S) p.1 p.2) S ((Int32.ofInt 0), (g_X12_wrongs (Int32.ofInt 6) (S 99 3) (g_X12_timesTold S))) = F_X12_monthTold  S := by rw [F_X12_monthTold, if_neg q3, if_neg q17, if_pos q31, if_pos q32, if_neg q33, if_pos q37, if_neg q38, if_pos q40]
                    exact ⟨rfl, fun N out h => e.symm.trans (z_lim_eq h)⟩
                  · have e : g_X12_wrongs (Int32.ofInt 6) (S 99 3) (g_X12_timesTold S) = F_X12_monthTold  S := by rw [F_X12_monthTold, if_neg q3, if_neg q17, if_pos q31, if_pos q32, if_neg q33, if_pos q37, if_neg q38, if_neg q40]
                    exact e.symm
              · refine ⟨fun q41 => ?_, fun q41 => ?_⟩
                · have e : z_lim (fun p => s_X12_monthTold_244 (f_X12_timesTold S) p.1 p.2) S ((Int32.ofInt 0), (g_X12_wrongs (Int32.ofInt 1) ((g_X12_timesTold S) 99 3) (g_X12_timesTold S))) = F_X12_monthTold  S := by rw [F_X12_monthTold, if_neg q3, if_neg q17, if_pos q31, if_pos q32, if_neg q33, if_neg q37, if_pos q41]
                  exact ⟨rfl, fun N out h => e.symm.trans (z_lim_eq h)⟩
                · have e : g_X12_wrongs (Int32.ofInt 1) ((g_X12_timesTold S) 99 3) (g_X12_timesTold S) = F_X12_monthTold  S := by rw [F_X12_monthTold, if_neg q3, if_neg q17, if_pos q31, if_pos q32, if_neg q33, if_neg q37, if_neg q41]
                  exact e.symm
          · refine ⟨fun q42 => ?_, fun q42 => ?_⟩
            · refine ⟨fun q43 => ?_, fun q43 => ?_⟩
              · intro _ _
                intro _ _
                intro _ _
                have e : z_s (z_s (z_s (z_s (z_s (z_s (g_X12_timesTold S) 134 (((g_X12_timesTold S) 99 65).toInt.toNat) ((g_X12_timesTold S) 99 64)) 135 (((g_X12_timesTold S) 99 65).toInt.toNat) (f_X12_timesTold S)) 136 (((g_X12_timesTold S) 99 65).toInt.toNat) (S 99 3)) 99 65 (((g_X12_timesTold S) 99 65) + (Int32.ofInt 1))) 99 66 (Int32.ofInt 0)) 99 3 (((g_X12_timesTold S) 99 3) + (Int32.ofInt 1)) = F_X12_monthTold  S := by rw [F_X12_monthTold, if_neg q3, if_neg q17, if_pos q31, if_neg q32, if_pos q42, if_pos q43]
                exact e.symm
              · have e : g_X12_timesTold S = F_X12_monthTold  S := by rw [F_X12_monthTold, if_neg q3, if_neg q17, if_pos q31, if_neg q32, if_pos q42, if_neg q43]
                exact e.symm
            · refine ⟨fun q44 => ?_, fun q44 => ?_⟩
              · intro _ _
                intro _ _
                intro _ _
                have e : z_s (z_s (z_s (z_s (z_s (z_s (g_X12_wrongs (Int32.ofInt 5) ((g_X12_timesTold S) 99 3) (g_X12_timesTold S)) 134 (((g_X12_wrongs (Int32.ofInt 5) ((g_X12_timesTold S) 99 3) (g_X12_timesTold S)) 99 65).toInt.toNat) ((g_X12_wrongs (Int32.ofInt 5) ((g_X12_timesTold S) 99 3) (g_X12_timesTold S)) 99 64)) 135 (((g_X12_wrongs (Int32.ofInt 5) ((g_X12_timesTold S) 99 3) (g_X12_timesTold S)) 99 65).toInt.toNat) (f_X12_timesTold S)) 136 (((g_X12_wrongs (Int32.ofInt 5) ((g_X12_timesTold S) 99 3) (g_X12_timesTold S)) 99 65).toInt.toNat) (S 99 3)) 99 65 (((g_X12_wrongs (Int32.ofInt 5) ((g_X12_timesTold S) 99 3) (g_X12_timesTold S)) 99 65) + (Int32.ofInt 1))) 99 66 (Int32.ofInt 0)) 99 3 (((g_X12_wrongs (Int32.ofInt 5) ((g_X12_timesTold S) 99 3) (g_X12_timesTold S)) 99 3) + (Int32.ofInt 1)) = F_X12_monthTold  S := by rw [F_X12_monthTold, if_neg q3, if_neg q17, if_pos q31, if_neg q32, if_neg q42, if_pos q44]
                exact e.symm
              · have e : g_X12_wrongs (Int32.ofInt 5) ((g_X12_timesTold S) 99 3) (g_X12_timesTold S) = F_X12_monthTold  S := by rw [F_X12_monthTold, if_neg q3, if_neg q17, if_pos q31, if_neg q32, if_neg q42, if_neg q44]
                exact e.symm
        · intro _ _
          intro _ _
          intro _ _
          have e : g_X12_repeats (S 134 (((S 99 65) - (Int32.ofInt 1)).toInt.toNat)) (S 135 (((S 99 65) - (Int32.ofInt 1)).toInt.toNat)) (S 136 (((S 99 65) - (Int32.ofInt 1)).toInt.toNat)) (z_s (z_s S 99 65 ((S 99 65) - (Int32.ofInt 1))) 99 3 ((S 99 3) + (Int32.ofInt 1))) = F_X12_monthTold  S := by rw [F_X12_monthTold, if_neg q3, if_neg q17, if_neg q31]
          exact e.symm
noncomputable def D_X12_timetable_49  (H49 : Int32 → v_Sf → Prop) (H111 : Int32 → Int32 → v_Sf → Prop) (K : Int32 → v_Sf → Prop) (x1 : Int32) (S : v_Sf) : Prop := (((f_X12_isGood S) = 0 → ((0 ≤ (S 99 5) → H111 x1 (Int32.ofInt 0) S) ∧ (¬ (0 ≤ (S 99 5)) → K (S 99 5) S))) ∧ (¬ ((f_X12_isGood S) = 0) → (((S 99 4) ≤ (S 99 3) → (((S 99 65) ≤ 0 → ((0 ≤ (S 99 5) → H111 x1 (Int32.ofInt 0) S) ∧ (¬ (0 ≤ (S 99 5)) → K (S 99 5) S))) ∧ (¬ ((S 99 65) ≤ 0) → ((0 ≤ ((g_X12_wrongs (Int32.ofInt 1) (S 99 3) S) 99 5) → H111 x1 (Int32.ofInt 0) (g_X12_wrongs (Int32.ofInt 1) (S 99 3) S)) ∧ (¬ (0 ≤ ((g_X12_wrongs (Int32.ofInt 1) (S 99 3) S) 99 5)) → K ((g_X12_wrongs (Int32.ofInt 1) (S 99 3) S) 99 5) (g_X12_wrongs (Int32.ofInt 1) (S 99 3) S)))))) ∧ (¬ ((S 99 4) ≤ (S 99 3)) → H49 x1 (g_X12_monthTold S)))))
noncomputable def D_X12_timetable_111  (H49 : Int32 → v_Sf → Prop) (H111 : Int32 → Int32 → v_Sf → Prop) (K : Int32 → v_Sf → Prop) (x1 : Int32) (x3 : Int32) (S : v_Sf) : Prop := (((S 99 64) ≤ x3 → (0 ≤ x1.toInt → x1.toInt < 6 → (0 ≤ x1.toInt → x1.toInt < 6 → K (S 99 64) (z_s (z_s S 127 x1.toInt.toNat (S 99 64)) 128 x1.toInt.toNat (Int32.ofInt 0))))) ∧ (¬ ((S 99 64) ≤ x3) → (0 ≤ x3.toInt → x3.toInt < 48 → (0 ≤ (((Int32.ofInt 48) * x1) + x3).toInt → (((Int32.ofInt 48) * x1) + x3).toInt < 288 → H111 x1 (x3 + (Int32.ofInt 1)) (z_s S 126 ((((Int32.ofInt 48) * x1) + x3).toInt.toNat) (S 133 x3.toInt.toNat))))))
noncomputable def D_X12_timetable (a : Int32) (b : Int32) (H49 : Int32 → v_Sf → Prop) (H111 : Int32 → Int32 → v_Sf → Prop) (K : Int32 → v_Sf → Prop) (S : v_Sf) : Prop := (((f_X12_isWard a) = 0 → K (Int32.ofInt (-1)) S) ∧ (¬ ((f_X12_isWard a) = 0) → (((z_in b 1 60) = 0 → K (Int32.ofInt (-1)) S) ∧ (¬ ((z_in b 1 60) = 0) → ((b ≤ (S 99 1) → H49 a (z_s (z_s (z_s (g_X12_begins b S) 99 64 (Int32.ofInt 0)) 99 65 (Int32.ofInt 0)) 99 66 (Int32.ofInt 0))) ∧ (¬ (b ≤ (S 99 1)) → K (Int32.ofInt (-1)) S))))))
set_option maxRecDepth 4000 in
theorem hd_X12_timetable (L : Nat) (xs : Nat → Int32) {R : v_Rf} (a : Int32) (b : Int32) (H49 : Int32 → v_Sf → Prop) (H111 : Int32 → Int32 → v_Sf → Prop) (K : Int32 → v_Sf → Prop) (k49 : ∀ (x1 : Int32) (S : v_Sf), H49 x1 S → D_X12_timetable_49 H49 H111 K x1 S) (k111 : ∀ (x1 : Int32) (x3 : Int32) (S : v_Sf), H111 x1 x3 S → D_X12_timetable_111 H49 H111 K x1 x3 S) : ∀ n, (∀ (d : Nat) (j2 : Int32) (x1 : Int32) (S : v_Sf), H49 x1 S → u_P L xs n d m_X12_timetable 49 [(0, .ref 100), (1, .int x1), (2, .int j2)] [] S R (z_Q R K)) ∧ (∀ (d : Nat) (j2 : Int32) (x1 : Int32) (x3 : Int32) (S : v_Sf), H111 x1 x3 S → u_P L xs n d m_X12_timetable 111 [(0, .ref 100), (1, .int x1), (2, .int j2), (3, .int x3)] [] S R (z_Q R K)) := by
  intro n
  induction n using Nat.strongRecOn with
  | ind n ih =>
    refine ⟨?_, ?_⟩
    · intro d j2 x1 S hD
      have hD := k49 x1 S hD
      unfold D_X12_timetable_49 at hD
      show u_P L xs n d m_X12_timetable 49 [(0, .ref 100), (1, .int x1), (2, .int j2)] [] S R _
      refine u_st1 rfl (fun _ => rfl) (fun m hm => ?_)
      show u_P L xs m d m_X12_timetable 50 [(0, .ref 100), (1, .int x1), (2, .int j2)] [.ref 100] S R _
      refine u_cv (rest := []) rfl (by decide) mt_X12_isGood v_tyM rfl rfl rfl (Nat.le_of_ble_eq_true rfl) (Nat.le_of_ble_eq_true rfl) (Nat.le_of_ble_eq_true rfl) (fun d' => c_X12_isGood L xs m d' S R) ?_
      rintro _ _ _ ⟨_, rfl, rfl, rfl, rfl⟩
      show u_P L xs m d m_X12_timetable 53 [(0, .ref 100), (1, .int x1), (2, .int j2)] [.int (f_X12_isGood S)] S R _
      refine u_if_eq rfl (fun h1 => ?_) (fun h1 => ?_)
      · have hD := hD.1 h1
        show u_P L xs m d m_X12_timetable 74 [(0, .ref 100), (1, .int x1), (2, .int j2)] [] S R _
        refine u_st rfl (fun _ => rfl) ?_
        show u_P L xs m d m_X12_timetable 75 [(0, .ref 100), (1, .int x1), (2, .int j2)] [.ref 100] S R _
        refine u_cv (rest := []) rfl (by decide) mt_X12_isGood v_tyM rfl rfl rfl (Nat.le_of_ble_eq_true rfl) (Nat.le_of_ble_eq_true rfl) (Nat.le_of_ble_eq_true rfl) (fun d' => c_X12_isGood L xs m d' S R) ?_
        rintro _ _ _ ⟨_, rfl, rfl, rfl, rfl⟩
        show u_P L xs m d m_X12_timetable 78 [(0, .ref 100), (1, .int x1), (2, .int j2)] [.int (f_X12_isGood S)] S R _
        refine u_if_eq rfl (fun _ => ?_) (fun h2 => absurd h1 h2)
        show u_P L xs m d m_X12_timetable 97 [(0, .ref 100), (1, .int x1), (2, .int j2)] [] S R _
        refine u_st rfl (fun _ => rfl) ?_
        show u_P L xs m d m_X12_timetable 98 [(0, .ref 100), (1, .int x1), (2, .int j2)] [.ref 100] S R _
        refine u_getE (v := S 99 5) rfl v_tyM rfl rfl ?_
        show u_P L xs m d m_X12_timetable 101 [(0, .ref 100), (1, .int x1), (2, .int j2)] [.int (S 99 5)] S R _
        refine u_if_ge rfl (fun h3 => ?_) (fun h3 => ?_)
        · have hD := hD.1 h3
          show u_P L xs m d m_X12_timetable 109 [(0, .ref 100), (1, .int x1), (2, .int j2)] [] S R _
          refine u_st rfl (fun _ => rfl) ?_
          refine u_st rfl (fun _ => rfl) ?_
          refine u_lc (b := [(0, .ref 100), (1, .int x1), (2, .int j2), (3, .int (Int32.ofInt 0))]) (show ([3, 0, 1, 2] : List Nat).Nodup by decide) (show ([0, 1, 2, 3] : List Nat).Nodup by decide) (fun i => match i with | 0 => rfl | 1 => rfl | 2 => rfl | 3 => rfl | _ + 4 => rfl) ?_
          exact (ih m hm).2 d j2 x1 (Int32.ofInt 0) S hD
        · have hD := hD.2 h3
          show u_P L xs m d m_X12_timetable 104 [(0, .ref 100), (1, .int x1), (2, .int j2)] [] S R _
          refine u_st rfl (fun _ => rfl) ?_
          show u_P L xs m d m_X12_timetable 105 [(0, .ref 100), (1, .int x1), (2, .int j2)] [.ref 100] S R _
          refine u_getE (v := S 99 5) rfl v_tyM rfl rfl ?_
          show u_P L xs m d m_X12_timetable 108 [(0, .ref 100), (1, .int x1), (2, .int j2)] [.int (S 99 5)] S R _
          exact u_ret rfl rfl ⟨_, rfl, rfl, hD⟩
      · have hD := hD.2 h1
        show u_P L xs m d m_X12_timetable 56 [(0, .ref 100), (1, .int x1), (2, .int j2)] [] S R _
        refine u_st rfl (fun _ => rfl) ?_
        show u_P L xs m d m_X12_timetable 57 [(0, .ref 100), (1, .int x1), (2, .int j2)] [.ref 100] S R _
        refine u_getE (v := S 99 3) rfl v_tyM rfl rfl ?_
        refine u_st rfl (fun _ => rfl) ?_
        show u_P L xs m d m_X12_timetable 61 [(0, .ref 100), (1, .int x1), (2, .int j2)] [.ref 100, .int (S 99 3)] S R _
        refine u_getE (v := S 99 4) rfl v_tyM rfl rfl ?_
        show u_P L xs m d m_X12_timetable 64 [(0, .ref 100), (1, .int x1), (2, .int j2)] [.int (S 99 4), .int (S 99 3)] S R _
        refine u_ic_ge rfl (fun h4 => ?_) (fun h4 => ?_)
        · have hD := hD.1 h4
          show u_P L xs m d m_X12_timetable 74 [(0, .ref 100), (1, .int x1), (2, .int j2)] [] S R _
          refine u_st rfl (fun _ => rfl) ?_
          show u_P L xs m d m_X12_timetable 75 [(0, .ref 100), (1, .int x1), (2, .int j2)] [.ref 100] S R _
          refine u_cv (rest := []) rfl (by decide) mt_X12_isGood v_tyM rfl rfl rfl (Nat.le_of_ble_eq_true rfl) (Nat.le_of_ble_eq_true rfl) (Nat.le_of_ble_eq_true rfl) (fun d' => c_X12_isGood L xs m d' S R) ?_
          rintro _ _ _ ⟨_, rfl, rfl, rfl, rfl⟩
          show u_P L xs m d m_X12_timetable 78 [(0, .ref 100), (1, .int x1), (2, .int j2)] [.int (f_X12_isGood S)] S R _
          refine u_if_eq rfl (fun h5 => absurd h5 h1) (fun _ => ?_)
          show u_P L xs m d m_X12_timetable 81 [(0, .ref 100), (1, .int x1), (2, .int j2)] [] S R _
          refine u_st rfl (fun _ => rfl) ?_
          show u_P L xs m d m_X12_timetable 82 [(0, .ref 100), (1, .int x1), (2, .int j2)] [.ref 100] S R _
          refine u_getE (v := S 99 65) rfl v_tyM rfl rfl ?_
          show u_P L xs m d m_X12_timetable 85 [(0, .ref 100), (1, .int x1), (2, .int j2)] [.int (S 99 65)] S R _
          refine u_if_le rfl (fun h6 => ?_) (fun h6 => ?_)
          · have hD := hD.1 h6
            show u_P L xs m d m_X12_timetable 97 [(0, .ref 100), (1, .int x1), (2, .int j2)] [] S R _
            refine u_st rfl (fun _ => rfl) ?_
            show u_P L xs m d m_X12_timetable 98 [(0, .ref 100), (1, .int x1), (2, .int j2)] [.ref 100] S R _
            refine u_getE (v := S 99 5) rfl v_tyM rfl rfl ?_
            show u_P L xs m d m_X12_timetable 101 [(0, .ref 100), (1, .int x1), (2, .int j2)] [.int (S 99 5)] S R _
            refine u_if_ge rfl (fun h7 => ?_) (fun h7 => ?_)
            · have hD := hD.1 h7
              show u_P L xs m d m_X12_timetable 109 [(0, .ref 100), (1, .int x1), (2, .int j2)] [] S R _
              refine u_st rfl (fun _ => rfl) ?_
              refine u_st rfl (fun _ => rfl) ?_
              refine u_lc (b := [(0, .ref 100), (1, .int x1), (2, .int j2), (3, .int (Int32.ofInt 0))]) (show ([3, 0, 1, 2] : List Nat).Nodup by decide) (show ([0, 1, 2, 3] : List Nat).Nodup by decide) (fun i => match i with | 0 => rfl | 1 => rfl | 2 => rfl | 3 => rfl | _ + 4 => rfl) ?_
              exact (ih m hm).2 d j2 x1 (Int32.ofInt 0) S hD
            · have hD := hD.2 h7
              show u_P L xs m d m_X12_timetable 104 [(0, .ref 100), (1, .int x1), (2, .int j2)] [] S R _
              refine u_st rfl (fun _ => rfl) ?_
              show u_P L xs m d m_X12_timetable 105 [(0, .ref 100), (1, .int x1), (2, .int j2)] [.ref 100] S R _
              refine u_getE (v := S 99 5) rfl v_tyM rfl rfl ?_
              show u_P L xs m d m_X12_timetable 108 [(0, .ref 100), (1, .int x1), (2, .int j2)] [.int (S 99 5)] S R _
              exact u_ret rfl rfl ⟨_, rfl, rfl, hD⟩
          · have hD := hD.2 h6
            show u_P L xs m d m_X12_timetable 88 [(0, .ref 100), (1, .int x1), (2, .int j2)] [] S R _
            refine u_st rfl (fun _ => rfl) ?_
            refine u_st rfl (fun _ => rfl) ?_
            refine u_st rfl (fun _ => rfl) ?_
            show u_P L xs m d m_X12_timetable 91 [(0, .ref 100), (1, .int x1), (2, .int j2)] [.ref 100, .int (Int32.ofInt 1), .ref 100] S R _
            refine u_getE (v := S 99 3) rfl v_tyM rfl rfl ?_
            show u_P L xs m d m_X12_timetable 94 [(0, .ref 100), (1, .int x1), (2, .int j2)] [.int (S 99 3), .int (Int32.ofInt 1), .ref 100] S R _
            refine u_cv (rest := []) rfl (by decide) mt_X12_wrongs v_tyM rfl rfl rfl (Nat.le_of_ble_eq_true rfl) (Nat.le_of_ble_eq_true rfl) (Nat.le_of_ble_eq_true rfl) (fun d' => c_X12_wrongs L xs m d' (Int32.ofInt 1) (S 99 3) S R) ?_
            rintro _ _ _ ⟨rfl, rfl, rfl⟩
            refine u_st rfl (fun _ => rfl) ?_
            show u_P L xs m d m_X12_timetable 98 [(0, .ref 100), (1, .int x1), (2, .int j2)] [.ref 100] (g_X12_wrongs (Int32.ofInt 1) (S 99 3) S) R _
            refine u_getE (v := (g_X12_wrongs (Int32.ofInt 1) (S 99 3) S) 99 5) rfl v_tyM rfl rfl ?_
            show u_P L xs m d m_X12_timetable 101 [(0, .ref 100), (1, .int x1), (2, .int j2)] [.int ((g_X12_wrongs (Int32.ofInt 1) (S 99 3) S) 99 5)] (g_X12_wrongs (Int32.ofInt 1) (S 99 3) S) R _
            refine u_if_ge rfl (fun h8 => ?_) (fun h8 => ?_)
            · have hD := hD.1 h8
              show u_P L xs m d m_X12_timetable 109 [(0, .ref 100), (1, .int x1), (2, .int j2)] [] (g_X12_wrongs (Int32.ofInt 1) (S 99 3) S) R _
              refine u_st rfl (fun _ => rfl) ?_
              refine u_st rfl (fun _ => rfl) ?_
              refine u_lc (b := [(0, .ref 100), (1, .int x1), (2, .int j2), (3, .int (Int32.ofInt 0))]) (show ([3, 0, 1, 2] : List Nat).Nodup by decide) (show ([0, 1, 2, 3] : List Nat).Nodup by decide) (fun i => match i with | 0 => rfl | 1 => rfl | 2 => rfl | 3 => rfl | _ + 4 => rfl) ?_
              exact (ih m hm).2 d j2 x1 (Int32.ofInt 0) (g_X12_wrongs (Int32.ofInt 1) (S 99 3) S) hD
            · have hD := hD.2 h8
              show u_P L xs m d m_X12_timetable 104 [(0, .ref 100), (1, .int x1), (2, .int j2)] [] (g_X12_wrongs (Int32.ofInt 1) (S 99 3) S) R _
              refine u_st rfl (fun _ => rfl) ?_
              show u_P L xs m d m_X12_timetable 105 [(0, .ref 100), (1, .int x1), (2, .int j2)] [.ref 100] (g_X12_wrongs (Int32.ofInt 1) (S 99 3) S) R _
              refine u_getE (v := (g_X12_wrongs (Int32.ofInt 1) (S 99 3) S) 99 5) rfl v_tyM rfl rfl ?_
              show u_P L xs m d m_X12_timetable 108 [(0, .ref 100), (1, .int x1), (2, .int j2)] [.int ((g_X12_wrongs (Int32.ofInt 1) (S 99 3) S) 99 5)] (g_X12_wrongs (Int32.ofInt 1) (S 99 3) S) R _
              exact u_ret rfl rfl ⟨_, rfl, rfl, hD⟩
        · have hD := hD.2 h4
          show u_P L xs m d m_X12_timetable 67 [(0, .ref 100), (1, .int x1), (2, .int j2)] [] S R _
          refine u_st rfl (fun _ => rfl) ?_
          show u_P L xs m d m_X12_timetable 68 [(0, .ref 100), (1, .int x1), (2, .int j2)] [.ref 100] S R _
          refine u_cv (rest := []) rfl (by decide) mt_X12_monthTold v_tyM rfl rfl rfl (Nat.le_of_ble_eq_true rfl) (Nat.le_of_ble_eq_true rfl) (Nat.le_of_ble_eq_true rfl) (fun d' => c_X12_monthTold L xs m d' S R) ?_
          rintro _ _ _ ⟨rfl, rfl, rfl⟩
          refine u_st rfl (fun _ => rfl) ?_
          exact (ih m hm).1 d j2 x1 (g_X12_monthTold S) hD
    · intro d j2 x1 x3 S hD
      have hD := k111 x1 x3 S hD
      unfold D_X12_timetable_111 at hD
      show u_P L xs n d m_X12_timetable 111 [(0, .ref 100), (1, .int x1), (2, .int j2), (3, .int x3)] [] S R _
      refine u_st1 rfl (fun _ => rfl) (fun m hm => ?_)
      refine u_st rfl (fun _ => rfl) ?_
      show u_P L xs m d m_X12_timetable 113 [(0, .ref 100), (1, .int x1), (2, .int j2), (3, .int x3)] [.ref 100, .int x3] S R _
      refine u_getE (v := S 99 64) rfl v_tyM rfl rfl ?_
      show u_P L xs m d m_X12_timetable 116 [(0, .ref 100), (1, .int x1), (2, .int j2), (3, .int x3)] [.int (S 99 64), .int x3] S R _
      refine u_ic_ge rfl (fun h1 => ?_) (fun h1 => ?_)
      · have hD := hD.1 h1
        show u_P L xs m d m_X12_timetable 142 [(0, .ref 100), (1, .int x1), (2, .int j2), (3, .int x3)] [] S R _
        refine u_st rfl (fun _ => rfl) ?_
        show u_P L xs m d m_X12_timetable 143 [(0, .ref 100), (1, .int x1), (2, .int j2), (3, .int x3)] [.ref 100] S R _
        refine u_getr rfl v_tyM rfl ?_
        refine u_st rfl (fun _ => rfl) ?_
        refine u_st rfl (fun _ => rfl) ?_
        show u_P L xs m d m_X12_timetable 148 [(0, .ref 100), (1, .int x1), (2, .int j2), (3, .int x3)] [.ref 100, .int x1, .ref 128] S R _
        refine u_getE (v := S 99 64) rfl v_tyM rfl rfl ?_
        show u_P L xs m d m_X12_timetable 151 [(0, .ref 100), (1, .int x1), (2, .int j2), (3, .int x3)] [.int (S 99 64), .int x1, .ref 128] S R _
        refine u_iast rfl rfl (fun b21 b22 => ?_)
        have hD := hD b21 b22
        show u_P L xs m d m_X12_timetable 152 [(0, .ref 100), (1, .int x1), (2, .int j2), (3, .int x3)] [] (z_s S 127 x1.toInt.toNat (S 99 64)) R _
        refine u_st rfl (fun _ => rfl) ?_
        show u_P L xs m d m_X12_timetable 153 [(0, .ref 100), (1, .int x1), (2, .int j2), (3, .int x3)] [.ref 100] (z_s S 127 x1.toInt.toNat (S 99 64)) R _
        refine u_getr rfl v_tyM rfl ?_
        refine u_st rfl (fun _ => rfl) ?_
        refine u_st rfl (fun _ => rfl) ?_
        show u_P L xs m d m_X12_timetable 158 [(0, .ref 100), (1, .int x1), (2, .int j2), (3, .int x3)] [.int (Int32.ofInt 0), .int x1, .ref 129] (z_s S 127 x1.toInt.toNat (S 99 64)) R _
        refine u_iast rfl rfl (fun b31 b32 => ?_)
        have hD := hD b31 b32
        show u_P L xs m d m_X12_timetable 159 [(0, .ref 100), (1, .int x1), (2, .int j2), (3, .int x3)] [] (z_s (z_s S 127 x1.toInt.toNat (S 99 64)) 128 x1.toInt.toNat (Int32.ofInt 0)) R _
        refine u_st rfl (fun _ => rfl) ?_
        show u_P L xs m d m_X12_timetable 160 [(0, .ref 100), (1, .int x1), (2, .int j2), (3, .int x3)] [.ref 100] (z_s (z_s S 127 x1.toInt.toNat (S 99 64)) 128 x1.toInt.toNat (Int32.ofInt 0)) R _
        refine u_getE (v := S 99 64) rfl v_tyM rfl ((z_sn (fun h => absurd h.1 (by decide))).trans (z_sn (fun h => absurd h.1 (by decide)))) ?_
        show u_P L xs m d m_X12_timetable 163 [(0, .ref 100), (1, .int x1), (2, .int j2), (3, .int x3)] [.int (S 99 64)] (z_s (z_s S 127 x1.toInt.toNat (S 99 64)) 128 x1.toInt.toNat (Int32.ofInt 0)) R _
        exact u_ret rfl rfl ⟨_, rfl, rfl, hD⟩
      · have hD := hD.2 h1
        show u_P L xs m d m_X12_timetable 119 [(0, .ref 100), (1, .int x1), (2, .int j2), (3, .int x3)] [] S R _
        refine u_st rfl (fun _ => rfl) ?_
        show u_P L xs m d m_X12_timetable 120 [(0, .ref 100), (1, .int x1), (2, .int j2), (3, .int x3)] [.ref 100] S R _
        refine u_getr rfl v_tyM rfl ?_
        refine u_st rfl (fun _ => rfl) ?_
        refine u_st rfl (fun _ => rfl) ?_
        refine u_st rfl (fun _ => rfl) ?_
        refine u_st rfl (fun _ => rfl) ?_
        refine u_st rfl (fun _ => rfl) ?_
        refine u_st rfl (fun _ => rfl) ?_
        show u_P L xs m d m_X12_timetable 130 [(0, .ref 100), (1, .int x1), (2, .int j2), (3, .int x3)] [.ref 100, .int (((Int32.ofInt 48) * x1) + x3), .ref 127] S R _
        refine u_getr rfl v_tyM rfl ?_
        refine u_st rfl (fun _ => rfl) ?_
        show u_P L xs m d m_X12_timetable 134 [(0, .ref 100), (1, .int x1), (2, .int j2), (3, .int x3)] [.int x3, .ref 134, .int (((Int32.ofInt 48) * x1) + x3), .ref 127] S R _
        refine u_ialdE (v := S 133 x3.toInt.toNat) rfl rfl rfl (fun b41 b42 => ?_)
        have hD := hD b41 b42
        show u_P L xs m d m_X12_timetable 135 [(0, .ref 100), (1, .int x1), (2, .int j2), (3, .int x3)] [.int (S 133 x3.toInt.toNat), .int (((Int32.ofInt 48) * x1) + x3), .ref 127] S R _
        refine u_iast rfl rfl (fun b51 b52 => ?_)
        have hD := hD b51 b52
        show u_P L xs m d m_X12_timetable 136 [(0, .ref 100), (1, .int x1), (2, .int j2), (3, .int x3)] [] (z_s S 126 ((((Int32.ofInt 48) * x1) + x3).toInt.toNat) (S 133 x3.toInt.toNat)) R _
        refine u_st rfl (fun _ => rfl) ?_
        refine u_st rfl (fun _ => rfl) ?_
        refine u_lc (b := [(0, .ref 100), (1, .int x1), (2, .int j2), (3, .int (x3 + (Int32.ofInt 1)))]) (show ([3, 0, 1, 2] : List Nat).Nodup by decide) (show ([0, 1, 2, 3] : List Nat).Nodup by decide) (fun i => match i with | 0 => rfl | 1 => rfl | 2 => rfl | 3 => rfl | _ + 4 => rfl) ?_
        exact (ih m hm).2 d j2 x1 (x3 + (Int32.ofInt 1)) (z_s S 126 ((((Int32.ofInt 48) * x1) + x3).toInt.toNat) (S 133 x3.toInt.toNat)) hD
set_option maxRecDepth 4000 in
theorem w_X12_timetable (L : Nat) (xs : Nat → Int32) {R : v_Rf} (a : Int32) (b : Int32) (H49 : Int32 → v_Sf → Prop) (H111 : Int32 → Int32 → v_Sf → Prop) (K : Int32 → v_Sf → Prop) (k49 : ∀ (x1 : Int32) (S : v_Sf), H49 x1 S → D_X12_timetable_49 H49 H111 K x1 S) (k111 : ∀ (x1 : Int32) (x3 : Int32) (S : v_Sf), H111 x1 x3 S → D_X12_timetable_111 H49 H111 K x1 x3 S) (n d : Nat) (S : v_Sf) (hD : D_X12_timetable a b H49 H111 K S) : u_P L xs n d m_X12_timetable 0 (lv_args 0 [.ref 100, .int a, .int b]) [] S R (z_Q R K) := by
  unfold D_X12_timetable at hD
  show u_P L xs n d m_X12_timetable 0 [(0, .ref 100), (1, .int a), (2, .int b)] [] S R _
  refine u_st rfl (fun _ => rfl) ?_
  show u_P L xs n d m_X12_timetable 1 [(0, .ref 100), (1, .int a), (2, .int b)] [.int a] S R _
  refine u_cs (ac := [.int a]) (rest := []) rfl (by decide) mt_X12_isWard (fun _ => rfl) (Nat.le_of_ble_eq_true rfl) (Nat.le_of_ble_eq_true rfl) (fun d' => c_X12_isWard L xs n d' a S R) ?_
  rintro _ _ _ ⟨_, rfl, rfl, rfl, rfl⟩
  show u_P L xs n d m_X12_timetable 4 [(0, .ref 100), (1, .int a), (2, .int b)] [.int (f_X12_isWard a)] S R _
  refine u_if_eq rfl (fun h1 => ?_) (fun h1 => ?_)
  · have hD := hD.1 h1
    show u_P L xs n d m_X12_timetable 27 [(0, .ref 100), (1, .int a), (2, .int b)] [] S R _
    refine u_st rfl (fun _ => rfl) ?_
    show u_P L xs n d m_X12_timetable 28 [(0, .ref 100), (1, .int a), (2, .int b)] [.int (Int32.ofInt (-1))] S R _
    exact u_ret rfl rfl ⟨_, rfl, rfl, hD⟩
  · have hD := hD.2 h1
    show u_P L xs n d m_X12_timetable 7 [(0, .ref 100), (1, .int a), (2, .int b)] [] S R _
    refine u_st rfl (fun _ => rfl) ?_
    refine u_st rfl (fun _ => rfl) ?_
    refine u_st rfl (fun _ => rfl) ?_
    refine u_st rfl (fun _ => rfl) ?_
    show u_P L xs n d m_X12_timetable 13 [(0, .ref 100), (1, .int a), (2, .int b)] [.long (Int64.ofInt 60), .long (Int64.ofNat 1), .long b.toInt64] S R _
    refine u_cs (ac := [.long b.toInt64, .long (Int64.ofNat 1), .long (Int64.ofInt 60)]) (rest := []) rfl (by decide) mt_X12_lies (fun _ => rfl) (Nat.le_of_ble_eq_true rfl) (Nat.le_of_ble_eq_true rfl) (fun d' => z_liesC L xs n d' b (Int64.ofNat 1) (Int64.ofInt 60) (lo := 1) (hi := 60) rfl rfl S R) ?_
    rintro _ _ _ ⟨_, rfl, rfl, rfl, rfl⟩
    show u_P L xs n d m_X12_timetable 16 [(0, .ref 100), (1, .int a), (2, .int b)] [.int (z_in b 1 60)] S R _
    refine u_if_eq rfl (fun h2 => ?_) (fun h2 => ?_)
    · have hD := hD.1 h2
      show u_P L xs n d m_X12_timetable 27 [(0, .ref 100), (1, .int a), (2, .int b)] [] S R _
      refine u_st rfl (fun _ => rfl) ?_
      show u_P L xs n d m_X12_timetable 28 [(0, .ref 100), (1, .int a), (2, .int b)] [.int (Int32.ofInt (-1))] S R _
      exact u_ret rfl rfl ⟨_, rfl, rfl, hD⟩
    · have hD := hD.2 h2
      show u_P L xs n d m_X12_timetable 19 [(0, .ref 100), (1, .int a), (2, .int b)] [] S R _
      refine u_st rfl (fun _ => rfl) ?_
      refine u_st rfl (fun _ => rfl) ?_
      show u_P L xs n d m_X12_timetable 21 [(0, .ref 100), (1, .int a), (2, .int b)] [.ref 100, .int b] S R _
      refine u_getE (v := S 99 1) rfl v_tyM rfl rfl ?_
      show u_P L xs n d m_X12_timetable 24 [(0, .ref 100), (1, .int a), (2, .int b)] [.int (S 99 1), .int b] S R _
      refine u_ic_le rfl (fun h3 => ?_) (fun h3 => ?_)
      · have hD := hD.1 h3
        show u_P L xs n d m_X12_timetable 29 [(0, .ref 100), (1, .int a), (2, .int b)] [] S R _
        refine u_st rfl (fun _ => rfl) ?_
        refine u_st rfl (fun _ => rfl) ?_
        show u_P L xs n d m_X12_timetable 31 [(0, .ref 100), (1, .int a), (2, .int b)] [.int b, .ref 100] S R _
        refine u_cv (rest := []) rfl (by decide) mt_X12_begins v_tyM rfl rfl rfl (Nat.le_of_ble_eq_true rfl) (Nat.le_of_ble_eq_true rfl) (Nat.le_of_ble_eq_true rfl) (fun d' => c_X12_begins L xs n d' b S R) ?_
        rintro _ _ _ ⟨rfl, rfl, rfl⟩
        refine u_st rfl (fun _ => rfl) ?_
        refine u_st rfl (fun _ => rfl) ?_
        show u_P L xs n d m_X12_timetable 36 [(0, .ref 100), (1, .int a), (2, .int b)] [.int (Int32.ofInt 0), .ref 100] (g_X12_begins b S) R _
        refine u_put rfl v_tyM rfl ?_
        refine u_st rfl (fun _ => rfl) ?_
        refine u_st rfl (fun _ => rfl) ?_
        show u_P L xs n d m_X12_timetable 41 [(0, .ref 100), (1, .int a), (2, .int b)] [.int (Int32.ofInt 0), .ref 100] (z_s (g_X12_begins b S) 99 64 (Int32.ofInt 0)) R _
        refine u_put rfl v_tyM rfl ?_
        refine u_st rfl (fun _ => rfl) ?_
        refine u_st rfl (fun _ => rfl) ?_
        show u_P L xs n d m_X12_timetable 46 [(0, .ref 100), (1, .int a), (2, .int b)] [.int (Int32.ofInt 0), .ref 100] (z_s (z_s (g_X12_begins b S) 99 64 (Int32.ofInt 0)) 99 65 (Int32.ofInt 0)) R _
        refine u_put rfl v_tyM rfl ?_
        exact (hd_X12_timetable L xs a b H49 H111 K k49 k111 n).1 d b a (z_s (z_s (z_s (g_X12_begins b S) 99 64 (Int32.ofInt 0)) 99 65 (Int32.ofInt 0)) 99 66 (Int32.ofInt 0)) hD
      · have hD := hD.2 h3
        show u_P L xs n d m_X12_timetable 27 [(0, .ref 100), (1, .int a), (2, .int b)] [] S R _
        refine u_st rfl (fun _ => rfl) ?_
        show u_P L xs n d m_X12_timetable 28 [(0, .ref 100), (1, .int a), (2, .int b)] [.int (Int32.ofInt (-1))] S R _
        exact u_ret rfl rfl ⟨_, rfl, rfl, hD⟩
noncomputable def s_X12_timetable_111 (x1 : Int32) (x3 : Int32) (S : v_Sf) : (Int32 × v_Sf) ⊕ (Int32 × v_Sf) := (if (S 99 64) ≤ x3 then (Sum.inr ((S 99 64, z_s (z_s S 127 x1.toInt.toNat (S 99 64)) 128 x1.toInt.toNat (Int32.ofInt 0)))) else (Sum.inl ((x3 + (Int32.ofInt 1)), (z_s S 126 ((((Int32.ofInt 48) * x1) + x3).toInt.toNat) (S 133 x3.toInt.toNat)))))
noncomputable def s_X12_timetable_49 (x1 : Int32) (S : v_Sf) : (v_Sf) ⊕ (Int32 × v_Sf) := (if (f_X12_isGood S) = 0 then (if 0 ≤ (S 99 5) then (Sum.inr (z_lim (fun p => s_X12_timetable_111 x1 p.1 p.2) (Int32.ofInt 0, S) ((Int32.ofInt 0), S))) else (Sum.inr ((S 99 5, S)))) else (if (S 99 4) ≤ (S 99 3) then (if (S 99 65) ≤ 0 then (if 0 ≤ (S 99 5) then (Sum.inr (z_lim (fun p => s_X12_timetable_111 x1 p.1 p.2) (Int32.ofInt 0, S) ((Int32.ofInt 0), S))) else (Sum.inr ((S 99 5, S)))) else (if 0 ≤ ((g_X12_wrongs (Int32.ofInt 1) (S 99 3) S) 99 5) then (Sum.inr (z_lim (fun p => s_X12_timetable_111 x1 p.1 p.2) (Int32.ofInt 0, S) ((Int32.ofInt 0), (g_X12_wrongs (Int32.ofInt 1) (S 99 3) S)))) else (Sum.inr (((g_X12_wrongs (Int32.ofInt 1) (S 99 3) S) 99 5, g_X12_wrongs (Int32.ofInt 1) (S 99 3) S))))) else (Sum.inl (g_X12_monthTold S))))
noncomputable def F_X12_timetable (a : Int32) (b : Int32) (S : v_Sf) : Int32 × v_Sf := (if (f_X12_isWard a) = 0 then (Int32.ofInt (-1), S) else (if (z_in b 1 60) = 0 then (Int32.ofInt (-1), S) else (if b ≤ (S 99 1) then z_lim (fun p => s_X12_timetable_49 a p) (Int32.ofInt 0, S) (z_s (z_s (z_s (g_X12_begins b S) 99 64 (Int32.ofInt 0)) 99 65 (Int32.ofInt 0)) 99 66 (Int32.ofInt 0)) else (Int32.ofInt (-1), S))))
noncomputable def f_X12_timetable (a : Int32) (b : Int32) (S : v_Sf) : Int32 := (F_X12_timetable a b S).1
noncomputable def g_X12_timetable (a : Int32) (b : Int32) (S : v_Sf) : v_Sf := (F_X12_timetable a b S).2
theorem c_X12_timetable (L : Nat) (xs : Nat → Int32) (n d : Nat) (a : Int32) (b : Int32) (S : v_Sf) (R : v_Rf) : u_P L xs n d m_X12_timetable 0 (lv_args 0 [.ref 100, .int a, .int b]) [] S R (z_Q R (fun v S1 => f_X12_timetable a b S = v ∧ g_X12_timetable a b S = S1)) := by
  refine w_X12_timetable L xs a b (fun y1 T => a = y1 ∧ (∀ N out, z_itr (fun p => s_X12_timetable_49 a p) N T = some out → F_X12_timetable a b S = out)) (fun y1 y3 T => a = y1 ∧ (∀ N out, z_itr (fun p => s_X12_timetable_111 a p.1 p.2) N (y3, T) = some out → F_X12_timetable a b S = out)) (fun v S1 => f_X12_timetable a b S = v ∧ g_X12_timetable a b S = S1) ?_ ?_ n d S ?_
  · rintro _ S1 ⟨rfl, e⟩
    unfold D_X12_timetable_49
    refine ⟨fun q1 => ?_, fun q1 => ?_⟩
    · refine ⟨fun q2 => ?_, fun q2 => ?_⟩
      · have e := (e 1 _ (z_itr_r (by show s_X12_timetable_49 a S1 = _; rw [s_X12_timetable_49, if_pos q1, if_pos q2]))).symm
        exact ⟨rfl, fun N out h => e.symm.trans (z_lim_eq h)⟩
      · have e := (e 1 _ (z_itr_r (by show s_X12_timetable_49 a S1 = _; rw [s_X12_timetable_49, if_pos q1, if_neg q2]))).symm
        have e1 := congrArg Prod.fst e.symm
        have e2 := congrArg Prod.snd e.symm
        exact ⟨e1, e2⟩
    · refine ⟨fun q3 => ?_, fun q3 => ?_⟩
      · refine ⟨fun q4 => ?_, fun q4 => ?_⟩
        · refine ⟨fun q5 => ?_, fun q5 => ?_⟩
          · have e := (e 1 _ (z_itr_r (by show s_X12_timetable_49 a S1 = _; rw [s_X12_timetable_49, if_neg q1, if_pos q3, if_pos q4, if_pos q5]))).symm
            exact ⟨rfl, fun N out h => e.symm.trans (z_lim_eq h)⟩
          · have e := (e 1 _ (z_itr_r (by show s_X12_timetable_49 a S1 = _; rw [s_X12_timetable_49, if_neg q1, if_pos q3, if_pos q4, if_neg q5]))).symm
            have e1 := congrArg Prod.fst e.symm
            have e2 := congrArg Prod.snd e.symm
            exact ⟨e1, e2⟩
        · refine ⟨fun q6 => ?_, fun q6 => ?_⟩
          · have e := (e 1 _ (z_itr_r (by show s_X12_timetable_49 a S1 = _; rw [s_X12_timetable_49, if_neg q1, if_pos q3, if_neg q4, if_pos q6]))).symm
            exact ⟨rfl, fun N out h => e.symm.trans (z_lim_eq h)⟩
          · have e := (e 1 _ (z_itr_r (by show s_X12_timetable_49 a S1 = _; rw [s_X12_timetable_49, if_neg q1, if_pos q3, if_neg q4, if_neg q6]))).symm
            have e1 := congrArg Prod.fst e.symm
            have e2 := congrArg Prod.snd e.symm
            exact ⟨e1, e2⟩
      · exact ⟨rfl, fun N out h => e (N + 1) out ((z_itr_l (by show s_X12_timetable_49 a S1 = _; rw [s_X12_timetable_49, if_neg q1, if_neg q3])).trans h)⟩
  · rintro _ x3 S1 ⟨rfl, e⟩
    unfold D_X12_timetable_111
    refine ⟨fun q7 => ?_, fun q7 => ?_⟩
    · intro _ _
      intro _ _
      have e := (e 1 _ (z_itr_r (by show s_X12_timetable_111 a x3 S1 = _; rw [s_X12_timetable_111, if_pos q7]))).symm
      have e1 := congrArg Prod.fst e.symm
      have e2 := congrArg Prod.snd e.symm
      exact ⟨e1, e2⟩
    · intro _ _
      intro _ _
      exact ⟨rfl, fun N out h => e (N + 1) out ((z_itr_l (by show s_X12_timetable_111 a x3 S1 = _; rw [s_X12_timetable_111, if_neg q7])).trans h)⟩
  · unfold D_X12_timetable
    refine ⟨fun q8 => ?_, fun q8 => ?_⟩
    · have e : (Int32.ofInt (-1), S) = F_X12_timetable a b S := by rw [F_X12_timetable, if_pos q8]
      have e1 := congrArg Prod.fst e.symm
      have e2 := congrArg Prod.snd e.symm
      exact ⟨e1, e2⟩
    · refine ⟨fun q9 => ?_, fun q9 => ?_⟩
      · have e : (Int32.ofInt (-1), S) = F_X12_timetable a b S := by rw [F_X12_timetable, if_neg q8, if_pos q9]
        have e1 := congrArg Prod.fst e.symm
        have e2 := congrArg Prod.snd e.symm
        exact ⟨e1, e2⟩
      · refine ⟨fun q10 => ?_, fun q10 => ?_⟩
        · have e : z_lim (fun p => s_X12_timetable_49 a p) (Int32.ofInt 0, S) (z_s (z_s (z_s (g_X12_begins b S) 99 64 (Int32.ofInt 0)) 99 65 (Int32.ofInt 0)) 99 66 (Int32.ofInt 0)) = F_X12_timetable a b S := by rw [F_X12_timetable, if_neg q8, if_neg q9, if_pos q10]
          exact ⟨rfl, fun N out h => e.symm.trans (z_lim_eq h)⟩
        · have e : (Int32.ofInt (-1), S) = F_X12_timetable a b S := by rw [F_X12_timetable, if_neg q8, if_neg q9, if_neg q10]
          have e1 := congrArg Prod.fst e.symm
          have e2 := congrArg Prod.snd e.symm
          exact ⟨e1, e2⟩
end PrtS42u
