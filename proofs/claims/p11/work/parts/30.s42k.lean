section PrtS42k
noncomputable abbrev m_X12_weakens : g_M := (g_cn 12, yX12_weakens, cX12_weakens, 3, none, g_look2 ttX12_weakens)
set_option maxRecDepth 20000 in
theorem mt_X12_weakens : g_mt 228 = some m_X12_weakens := rfl
noncomputable def D_X12_weakens_22  (H22 : Int32 → v_Sf → Prop) (K : v_Sf → Prop) (x2 : Int32) (S : v_Sf) : Prop := (((Int32.ofInt 12) ≤ x2 → K S) ∧ (¬ ((Int32.ofInt 12) ≤ x2) → (0 ≤ x2.toInt → x2.toInt < 12 → (((¬ (S 116 x2.toInt.toNat) = 0) → (0 ≤ x2.toInt → x2.toInt < 12 → (0 ≤ x2.toInt → x2.toInt < 12 → H22 (x2 + (Int32.ofInt 1)) (z_s (g_X12_tells (Int32.ofInt 103) (Int32.ofInt 20) (g_X12_gustStands x2 S)) 117 x2.toInt.toNat (f_X12_held (((g_X12_gustStands x2 S) 117 x2.toInt.toNat) - (f_X12_tells (Int32.ofInt 103) (Int32.ofInt 20) (g_X12_gustStands x2 S))) (Int32.ofInt 99)))))) ∧ (¬ (¬ (S 116 x2.toInt.toNat) = 0) → H22 (x2 + (Int32.ofInt 1)) S)))))
noncomputable def D_X12_weakens  (H22 : Int32 → v_Sf → Prop) (K : v_Sf → Prop) (S : v_Sf) : Prop := ((((S 99 60) - (S 99 60) / (Int32.ofInt 12) * (Int32.ofInt 12)) = (Int32.ofInt 11) → H22 (Int32.ofInt 0) S) ∧ (¬ (((S 99 60) - (S 99 60) / (Int32.ofInt 12) * (Int32.ofInt 12)) = (Int32.ofInt 11)) → ((((S 99 60) - (S 99 60) / (Int32.ofInt 12) * (Int32.ofInt 12)) ≤ (Int32.ofInt 1) → H22 (Int32.ofInt 0) S) ∧ (¬ (((S 99 60) - (S 99 60) / (Int32.ofInt 12) * (Int32.ofInt 12)) ≤ (Int32.ofInt 1)) → K S))))
set_option maxRecDepth 4000 in
theorem hd_X12_weakens (L : Nat) (xs : Nat → Int32) {R : v_Rf}  (H22 : Int32 → v_Sf → Prop) (K : v_Sf → Prop) (k22 : ∀ (x2 : Int32) (S : v_Sf), H22 x2 S → D_X12_weakens_22 H22 K x2 S) : ∀ n, (∀ (d : Nat) (j1 : Int32) (x2 : Int32) (S : v_Sf), H22 x2 S → u_P L xs n d m_X12_weakens 22 [(0, .ref 100), (1, .int j1), (2, .int x2)] [] S R (z_V R K)) := by
  intro n
  induction n using Nat.strongRecOn with
  | ind n ih =>
    intro d j1 x2 S hD
    have hD := k22 x2 S hD
    unfold D_X12_weakens_22 at hD
    show u_P L xs n d m_X12_weakens 22 [(0, .ref 100), (1, .int j1), (2, .int x2)] [] S R _
    refine u_st1 rfl (fun _ => rfl) (fun m hm => ?_)
    refine u_st rfl (fun _ => rfl) ?_
    show u_P L xs m d m_X12_weakens 25 [(0, .ref 100), (1, .int j1), (2, .int x2)] [.int (Int32.ofInt 12), .int x2] S R _
    refine u_ic_ge rfl (fun h1 => ?_) (fun h1 => ?_)
    · have hD := hD.1 h1
      show u_P L xs m d m_X12_weakens 77 [(0, .ref 100), (1, .int j1), (2, .int x2)] [] S R _
      exact u_ret rfl rfl ⟨rfl, rfl, hD⟩
    · have hD := hD.2 h1
      show u_P L xs m d m_X12_weakens 28 [(0, .ref 100), (1, .int j1), (2, .int x2)] [] S R _
      refine u_st rfl (fun _ => rfl) ?_
      show u_P L xs m d m_X12_weakens 29 [(0, .ref 100), (1, .int j1), (2, .int x2)] [.ref 100] S R _
      refine u_getr rfl v_tyM rfl ?_
      refine u_st rfl (fun _ => rfl) ?_
      show u_P L xs m d m_X12_weakens 33 [(0, .ref 100), (1, .int j1), (2, .int x2)] [.int x2, .ref 117] S R _
      refine u_baldE (v := S 116 x2.toInt.toNat) rfl rfl (by decide) rfl (fun b21 b22 => ?_)
      have hD := hD b21 b22
      show u_P L xs m d m_X12_weakens 34 [(0, .ref 100), (1, .int j1), (2, .int x2)] [.int (S 116 x2.toInt.toNat)] S R _
      refine u_if_ne rfl (fun h3 => ?_) (fun h3 => ?_)
      · have hD := hD.1 h3
        show u_P L xs m d m_X12_weakens 40 [(0, .ref 100), (1, .int j1), (2, .int x2)] [] S R _
        refine u_st rfl (fun _ => rfl) ?_
        refine u_st rfl (fun _ => rfl) ?_
        show u_P L xs m d m_X12_weakens 42 [(0, .ref 100), (1, .int j1), (2, .int x2)] [.int x2, .ref 100] S R _
        refine u_cv (rest := []) rfl (by decide) mt_X12_gustStands v_tyM rfl rfl rfl (Nat.le_of_ble_eq_true rfl) (Nat.le_of_ble_eq_true rfl) (Nat.le_of_ble_eq_true rfl) (fun d' => c_X12_gustStands L xs m d' x2 S R) ?_
        rintro _ _ _ ⟨rfl, rfl, rfl⟩
        refine u_st rfl (fun _ => rfl) ?_
        show u_P L xs m d m_X12_weakens 46 [(0, .ref 100), (1, .int j1), (2, .int x2)] [.ref 100] (g_X12_gustStands x2 S) R _
        refine u_getr rfl v_tyM rfl ?_
        refine u_st rfl (fun _ => rfl) ?_
        refine u_st rfl (fun _ => rfl) ?_
        show u_P L xs m d m_X12_weakens 51 [(0, .ref 100), (1, .int j1), (2, .int x2)] [.ref 100, .int x2, .ref 118] (g_X12_gustStands x2 S) R _
        refine u_getr rfl v_tyM rfl ?_
        refine u_st rfl (fun _ => rfl) ?_
        show u_P L xs m d m_X12_weakens 55 [(0, .ref 100), (1, .int j1), (2, .int x2)] [.int x2, .ref 118, .int x2, .ref 118] (g_X12_gustStands x2 S) R _
        refine u_ialdE (v := (g_X12_gustStands x2 S) 117 x2.toInt.toNat) rfl rfl rfl (fun b41 b42 => ?_)
        have hD := hD b41 b42
        show u_P L xs m d m_X12_weakens 56 [(0, .ref 100), (1, .int j1), (2, .int x2)] [.int ((g_X12_gustStands x2 S) 117 x2.toInt.toNat), .int x2, .ref 118] (g_X12_gustStands x2 S) R _
        refine u_st rfl (fun _ => rfl) ?_
        refine u_st rfl (fun _ => rfl) ?_
        refine u_st rfl (fun _ => rfl) ?_
        show u_P L xs m d m_X12_weakens 61 [(0, .ref 100), (1, .int j1), (2, .int x2)] [.int (Int32.ofInt 20), .int (Int32.ofInt 103), .ref 100, .int ((g_X12_gustStands x2 S) 117 x2.toInt.toNat), .int x2, .ref 118] (g_X12_gustStands x2 S) R _
        refine u_cv (rest := [.int ((g_X12_gustStands x2 S) 117 x2.toInt.toNat), .int x2, .ref 118]) rfl (by decide) mt_X12_tells v_tyM rfl rfl rfl (Nat.le_of_ble_eq_true rfl) (Nat.le_of_ble_eq_true rfl) (Nat.le_of_ble_eq_true rfl) (fun d' => c_X12_tells L xs m d' (Int32.ofInt 103) (Int32.ofInt 20) (g_X12_gustStands x2 S) R) ?_
        rintro _ _ _ ⟨_, rfl, rfl, rfl, rfl⟩
        refine u_st rfl (fun _ => rfl) ?_
        refine u_st rfl (fun _ => rfl) ?_
        show u_P L xs m d m_X12_weakens 67 [(0, .ref 100), (1, .int j1), (2, .int x2)] [.int (Int32.ofInt 99), .int (((g_X12_gustStands x2 S) 117 x2.toInt.toNat) - (f_X12_tells (Int32.ofInt 103) (Int32.ofInt 20) (g_X12_gustStands x2 S))), .int x2, .ref 118] (g_X12_tells (Int32.ofInt 103) (Int32.ofInt 20) (g_X12_gustStands x2 S)) R _
        refine u_cs (ac := [.int (((g_X12_gustStands x2 S) 117 x2.toInt.toNat) - (f_X12_tells (Int32.ofInt 103) (Int32.ofInt 20) (g_X12_gustStands x2 S))), .int (Int32.ofInt 99)]) (rest := [.int x2, .ref 118]) rfl (by decide) mt_X12_held (fun _ => rfl) (Nat.le_of_ble_eq_true rfl) (Nat.le_of_ble_eq_true rfl) (fun d' => c_X12_held L xs m d' (((g_X12_gustStands x2 S) 117 x2.toInt.toNat) - (f_X12_tells (Int32.ofInt 103) (Int32.ofInt 20) (g_X12_gustStands x2 S))) (Int32.ofInt 99) (g_X12_tells (Int32.ofInt 103) (Int32.ofInt 20) (g_X12_gustStands x2 S)) R) ?_
        rintro _ _ _ ⟨_, rfl, rfl, rfl, rfl⟩
        show u_P L xs m d m_X12_weakens 70 [(0, .ref 100), (1, .int j1), (2, .int x2)] [.int (f_X12_held (((g_X12_gustStands x2 S) 117 x2.toInt.toNat) - (f_X12_tells (Int32.ofInt 103) (Int32.ofInt 20) (g_X12_gustStands x2 S))) (Int32.ofInt 99)), .int x2, .ref 118] (g_X12_tells (Int32.ofInt 103) (Int32.ofInt 20) (g_X12_gustStands x2 S)) R _
        refine u_iast rfl rfl (fun b51 b52 => ?_)
        have hD := hD b51 b52
        show u_P L xs m d m_X12_weakens 71 [(0, .ref 100), (1, .int j1), (2, .int x2)] [] (z_s (g_X12_tells (Int32.ofInt 103) (Int32.ofInt 20) (g_X12_gustStands x2 S)) 117 x2.toInt.toNat (f_X12_held (((g_X12_gustStands x2 S) 117 x2.toInt.toNat) - (f_X12_tells (Int32.ofInt 103) (Int32.ofInt 20) (g_X12_gustStands x2 S))) (Int32.ofInt 99))) R _
        refine u_st rfl (fun _ => rfl) ?_
        refine u_st rfl (fun _ => rfl) ?_
        refine u_lc (b := [(0, .ref 100), (1, .int j1), (2, .int (x2 + (Int32.ofInt 1)))]) (show ([2, 0, 1] : List Nat).Nodup by decide) (show ([0, 1, 2] : List Nat).Nodup by decide) (fun i => match i with | 0 => rfl | 1 => rfl | 2 => rfl | _ + 3 => rfl) ?_
        exact (ih m hm) d j1 (x2 + (Int32.ofInt 1)) (z_s (g_X12_tells (Int32.ofInt 103) (Int32.ofInt 20) (g_X12_gustStands x2 S)) 117 x2.toInt.toNat (f_X12_held (((g_X12_gustStands x2 S) 117 x2.toInt.toNat) - (f_X12_tells (Int32.ofInt 103) (Int32.ofInt 20) (g_X12_gustStands x2 S))) (Int32.ofInt 99))) hD
      · have hD := hD.2 h3
        show u_P L xs m d m_X12_weakens 37 [(0, .ref 100), (1, .int j1), (2, .int x2)] [] S R _
        refine u_st rfl (fun _ => rfl) ?_
        refine u_st rfl (fun _ => rfl) ?_
        refine u_st rfl (fun _ => rfl) ?_
        refine u_lc (b := [(0, .ref 100), (1, .int j1), (2, .int (x2 + (Int32.ofInt 1)))]) (show ([2, 0, 1] : List Nat).Nodup by decide) (show ([0, 1, 2] : List Nat).Nodup by decide) (fun i => match i with | 0 => rfl | 1 => rfl | 2 => rfl | _ + 3 => rfl) ?_
        exact (ih m hm) d j1 (x2 + (Int32.ofInt 1)) S hD
set_option maxRecDepth 4000 in
theorem w_X12_weakens (L : Nat) (xs : Nat → Int32) {R : v_Rf}  (H22 : Int32 → v_Sf → Prop) (K : v_Sf → Prop) (k22 : ∀ (x2 : Int32) (S : v_Sf), H22 x2 S → D_X12_weakens_22 H22 K x2 S) (n d : Nat) (S : v_Sf) (hD : D_X12_weakens H22 K S) : u_P L xs n d m_X12_weakens 0 (lv_args 0 [.ref 100]) [] S R (z_V R K) := by
  unfold D_X12_weakens at hD
  show u_P L xs n d m_X12_weakens 0 [(0, .ref 100)] [] S R _
  refine u_st rfl (fun _ => rfl) ?_
  show u_P L xs n d m_X12_weakens 1 [(0, .ref 100)] [.ref 100] S R _
  refine u_getE (v := S 99 60) rfl v_tyM rfl rfl ?_
  refine u_st rfl (fun _ => rfl) ?_
  show u_P L xs n d m_X12_weakens 6 [(0, .ref 100)] [.int (Int32.ofInt 12), .int (S 99 60)] S R _
  refine u_irem rfl (fun b1 => ?_)
  refine u_st rfl (fun _ => rfl) ?_
  refine u_st rfl (fun _ => rfl) ?_
  refine u_st rfl (fun _ => rfl) ?_
  show u_P L xs n d m_X12_weakens 11 [(1, .int ((S 99 60) - (S 99 60) / (Int32.ofInt 12) * (Int32.ofInt 12))), (0, .ref 100)] [.int (Int32.ofInt 11), .int ((S 99 60) - (S 99 60) / (Int32.ofInt 12) * (Int32.ofInt 12))] S R _
  refine u_ic_eq rfl (fun h2 => ?_) (fun h2 => ?_)
  · have hD := hD.1 h2
    show u_P L xs n d m_X12_weakens 20 [(1, .int ((S 99 60) - (S 99 60) / (Int32.ofInt 12) * (Int32.ofInt 12))), (0, .ref 100)] [] S R _
    refine u_st rfl (fun _ => rfl) ?_
    refine u_st rfl (fun _ => rfl) ?_
    refine u_lc (b := [(0, .ref 100), (1, .int ((S 99 60) - (S 99 60) / (Int32.ofInt 12) * (Int32.ofInt 12))), (2, .int (Int32.ofInt 0))]) (show ([2, 1, 0] : List Nat).Nodup by decide) (show ([0, 1, 2] : List Nat).Nodup by decide) (fun i => match i with | 0 => rfl | 1 => rfl | 2 => rfl | _ + 3 => rfl) ?_
    exact (hd_X12_weakens L xs H22 K k22 n) d ((S 99 60) - (S 99 60) / (Int32.ofInt 12) * (Int32.ofInt 12)) (Int32.ofInt 0) S hD
  · have hD := hD.2 h2
    show u_P L xs n d m_X12_weakens 14 [(1, .int ((S 99 60) - (S 99 60) / (Int32.ofInt 12) * (Int32.ofInt 12))), (0, .ref 100)] [] S R _
    refine u_st rfl (fun _ => rfl) ?_
    refine u_st rfl (fun _ => rfl) ?_
    show u_P L xs n d m_X12_weakens 16 [(1, .int ((S 99 60) - (S 99 60) / (Int32.ofInt 12) * (Int32.ofInt 12))), (0, .ref 100)] [.int (Int32.ofInt 1), .int ((S 99 60) - (S 99 60) / (Int32.ofInt 12) * (Int32.ofInt 12))] S R _
    refine u_ic_le rfl (fun h3 => ?_) (fun h3 => ?_)
    · have hD := hD.1 h3
      show u_P L xs n d m_X12_weakens 20 [(1, .int ((S 99 60) - (S 99 60) / (Int32.ofInt 12) * (Int32.ofInt 12))), (0, .ref 100)] [] S R _
      refine u_st rfl (fun _ => rfl) ?_
      refine u_st rfl (fun _ => rfl) ?_
      refine u_lc (b := [(0, .ref 100), (1, .int ((S 99 60) - (S 99 60) / (Int32.ofInt 12) * (Int32.ofInt 12))), (2, .int (Int32.ofInt 0))]) (show ([2, 1, 0] : List Nat).Nodup by decide) (show ([0, 1, 2] : List Nat).Nodup by decide) (fun i => match i with | 0 => rfl | 1 => rfl | 2 => rfl | _ + 3 => rfl) ?_
      exact (hd_X12_weakens L xs H22 K k22 n) d ((S 99 60) - (S 99 60) / (Int32.ofInt 12) * (Int32.ofInt 12)) (Int32.ofInt 0) S hD
    · have hD := hD.2 h3
      show u_P L xs n d m_X12_weakens 19 [(1, .int ((S 99 60) - (S 99 60) / (Int32.ofInt 12) * (Int32.ofInt 12))), (0, .ref 100)] [] S R _
      exact u_ret rfl rfl ⟨rfl, rfl, hD⟩
noncomputable def r_X12_weakens_22  : Nat → Nat → v_Sf → v_Sf
  | 0, k22, S => S
  | r + 1, k22, S => (if ¬ (S 116 (z_i k22).toInt.toNat) = 0 then r_X12_weakens_22 r (k22 + 1) (z_s (g_X12_tells (Int32.ofInt 103) (Int32.ofInt 20) (g_X12_gustStands (z_i k22) S)) 117 (z_i k22).toInt.toNat (f_X12_held (((g_X12_gustStands (z_i k22) S) 117 (z_i k22).toInt.toNat) - (f_X12_tells (Int32.ofInt 103) (Int32.ofInt 20) (g_X12_gustStands (z_i k22) S))) (Int32.ofInt 99))) else r_X12_weakens_22 r (k22 + 1) S)
noncomputable def F_X12_weakens  (S : v_Sf) : v_Sf := (if ((S 99 60) - (S 99 60) / (Int32.ofInt 12) * (Int32.ofInt 12)) = (Int32.ofInt 11) then r_X12_weakens_22 (12 - 0) 0 S else (if ((S 99 60) - (S 99 60) / (Int32.ofInt 12) * (Int32.ofInt 12)) ≤ (Int32.ofInt 1) then r_X12_weakens_22 (12 - 0) 0 S else S))
noncomputable def g_X12_weakens  (S : v_Sf) : v_Sf := F_X12_weakens  S
theorem c_X12_weakens (L : Nat) (xs : Nat → Int32) (n d : Nat)  (S : v_Sf) (R : v_Rf) : u_P L xs n d m_X12_weakens 0 (lv_args 0 [.ref 100]) [] S R (z_V R (fun S1 => g_X12_weakens  S = S1)) := by
  refine w_X12_weakens L xs  (fun y2 T => ∃ (k22 : Nat), k22 ≤ 12 ∧ z_i k22 = y2 ∧ r_X12_weakens_22 (12 - k22) k22 T = F_X12_weakens  S) (fun S1 => g_X12_weakens  S = S1) ?_ n d S ?_
  · rintro _ S1 ⟨k22, hkk, rfl, e⟩
    unfold D_X12_weakens_22
    rcases Nat.lt_or_ge k22 (12) with hk | hk
    · rw [show 12 - k22 = (12 - (k22 + 1)) + 1 by omega, r_X12_weakens_22] at e
      refine ⟨fun q1 => ?_, fun q1 => ?_⟩
      · exact absurd hk (Nat.not_lt.mpr (z_leB2 (B := 12) q1 (by decide) (by omega)))
      · intro _ _
        refine ⟨fun q2 => ?_, fun q2 => ?_⟩
        · intro _ _
          intro _ _
          rw [if_pos q2] at e
          exact ⟨(k22 + 1), by omega, (z_i1 k22).symm, e⟩
        · rw [if_neg q2] at e
          exact ⟨(k22 + 1), by omega, (z_i1 k22).symm, e⟩
    · rw [show 12 - k22 = 0 by omega, r_X12_weakens_22] at e
      refine ⟨fun q3 => ?_, fun q3 => ?_⟩
      · exact e.symm
      · exact absurd hk (Nat.not_le.mpr (z_ltB2 (B := 12) q3 (by decide) (by omega)))
  · unfold D_X12_weakens
    refine ⟨fun q4 => ?_, fun q4 => ?_⟩
    · have e : r_X12_weakens_22 (12 - 0) 0 S = F_X12_weakens  S := by rw [F_X12_weakens, if_pos q4]
      exact ⟨0, by omega, rfl, e⟩
    · refine ⟨fun q5 => ?_, fun q5 => ?_⟩
      · have e : r_X12_weakens_22 (12 - 0) 0 S = F_X12_weakens  S := by rw [F_X12_weakens, if_neg q4, if_pos q5]
        exact ⟨0, by omega, rfl, e⟩
      · have e : S = F_X12_weakens  S := by rw [F_X12_weakens, if_neg q4, if_neg q5]
        exact e.symm
noncomputable abbrev m_X12_feeds : g_M := (g_cn 12, yX12_feeds, cX12_feeds, 3, none, g_look2 ttX12_feeds)
set_option maxRecDepth 20000 in
theorem mt_X12_feeds : g_mt 230 = some m_X12_feeds := rfl
noncomputable def D_X12_feeds_2  (H2 : Int32 → Int32 → v_Sf → Prop) (K : v_Sf → Prop) (x1 : Int32) (x2 : Int32) (S : v_Sf) : Prop := (((Int32.ofInt 12) ≤ x2 → K S) ∧ (¬ ((Int32.ofInt 12) ≤ x2) → (0 ≤ x1.toInt → x1.toInt < 6 → (((S 124 x1.toInt.toNat) ≤ 0 → K S) ∧ (¬ ((S 124 x1.toInt.toNat) ≤ 0) → (((¬ (f_X12_isIn x2 x1 S) = 0) → (0 ≤ x2.toInt → x2.toInt < 12 → (0 ≤ x2.toInt → x2.toInt < 12 → H2 x1 (x2 + (Int32.ofInt 1)) (z_s (g_X12_tells (Int32.ofInt 102) (Int32.ofInt 20) (g_X12_gustStands x2 S)) 117 x2.toInt.toNat (f_X12_held (((g_X12_gustStands x2 S) 117 x2.toInt.toNat) + (f_X12_tells (Int32.ofInt 102) (Int32.ofInt 20) (g_X12_gustStands x2 S))) (Int32.ofInt 99)))))) ∧ (¬ (¬ (f_X12_isIn x2 x1 S) = 0) → H2 x1 (x2 + (Int32.ofInt 1)) S)))))))
noncomputable def D_X12_feeds (w : Int32) (H2 : Int32 → Int32 → v_Sf → Prop) (K : v_Sf → Prop) (S : v_Sf) : Prop := H2 w (Int32.ofInt 0) S
set_option maxRecDepth 4000 in
theorem hd_X12_feeds (L : Nat) (xs : Nat → Int32) {R : v_Rf} (w : Int32) (H2 : Int32 → Int32 → v_Sf → Prop) (K : v_Sf → Prop) (k2 : ∀ (x1 : Int32) (x2 : Int32) (S : v_Sf), H2 x1 x2 S → D_X12_feeds_2 H2 K x1 x2 S) : ∀ n, (∀ (d : Nat) (x1 : Int32) (x2 : Int32) (S : v_Sf), H2 x1 x2 S → u_P L xs n d m_X12_feeds 2 [(0, .ref 100), (1, .int x1), (2, .int x2)] [] S R (z_V R K)) := by
  intro n
  induction n using Nat.strongRecOn with
  | ind n ih =>
    intro d x1 x2 S hD
    have hD := k2 x1 x2 S hD
    unfold D_X12_feeds_2 at hD
    show u_P L xs n d m_X12_feeds 2 [(0, .ref 100), (1, .int x1), (2, .int x2)] [] S R _
    refine u_st1 rfl (fun _ => rfl) (fun m hm => ?_)
    refine u_st rfl (fun _ => rfl) ?_
    show u_P L xs m d m_X12_feeds 5 [(0, .ref 100), (1, .int x1), (2, .int x2)] [.int (Int32.ofInt 12), .int x2] S R _
    refine u_ic_ge rfl (fun h1 => ?_) (fun h1 => ?_)
    · have hD := hD.1 h1
      show u_P L xs m d m_X12_feeds 66 [(0, .ref 100), (1, .int x1), (2, .int x2)] [] S R _
      exact u_ret rfl rfl ⟨rfl, rfl, hD⟩
    · have hD := hD.2 h1
      show u_P L xs m d m_X12_feeds 8 [(0, .ref 100), (1, .int x1), (2, .int x2)] [] S R _
      refine u_st rfl (fun _ => rfl) ?_
      show u_P L xs m d m_X12_feeds 9 [(0, .ref 100), (1, .int x1), (2, .int x2)] [.ref 100] S R _
      refine u_getr rfl v_tyM rfl ?_
      refine u_st rfl (fun _ => rfl) ?_
      show u_P L xs m d m_X12_feeds 13 [(0, .ref 100), (1, .int x1), (2, .int x2)] [.int x1, .ref 125] S R _
      refine u_ialdE (v := S 124 x1.toInt.toNat) rfl rfl rfl (fun b21 b22 => ?_)
      have hD := hD b21 b22
      show u_P L xs m d m_X12_feeds 14 [(0, .ref 100), (1, .int x1), (2, .int x2)] [.int (S 124 x1.toInt.toNat)] S R _
      refine u_if_le rfl (fun h3 => ?_) (fun h3 => ?_)
      · have hD := hD.1 h3
        show u_P L xs m d m_X12_feeds 66 [(0, .ref 100), (1, .int x1), (2, .int x2)] [] S R _
        exact u_ret rfl rfl ⟨rfl, rfl, hD⟩
      · have hD := hD.2 h3
        show u_P L xs m d m_X12_feeds 17 [(0, .ref 100), (1, .int x1), (2, .int x2)] [] S R _
        refine u_st rfl (fun _ => rfl) ?_
        refine u_st rfl (fun _ => rfl) ?_
        refine u_st rfl (fun _ => rfl) ?_
        show u_P L xs m d m_X12_feeds 20 [(0, .ref 100), (1, .int x1), (2, .int x2)] [.int x1, .int x2, .ref 100] S R _
        refine u_cv (rest := []) rfl (by decide) mt_X12_isIn v_tyM rfl rfl rfl (Nat.le_of_ble_eq_true rfl) (Nat.le_of_ble_eq_true rfl) (Nat.le_of_ble_eq_true rfl) (fun d' => c_X12_isIn L xs m d' x2 x1 S R) ?_
        rintro _ _ _ ⟨_, rfl, rfl, rfl, rfl⟩
        show u_P L xs m d m_X12_feeds 23 [(0, .ref 100), (1, .int x1), (2, .int x2)] [.int (f_X12_isIn x2 x1 S)] S R _
        refine u_if_ne rfl (fun h4 => ?_) (fun h4 => ?_)
        · have hD := hD.1 h4
          show u_P L xs m d m_X12_feeds 29 [(0, .ref 100), (1, .int x1), (2, .int x2)] [] S R _
          refine u_st rfl (fun _ => rfl) ?_
          refine u_st rfl (fun _ => rfl) ?_
          show u_P L xs m d m_X12_feeds 31 [(0, .ref 100), (1, .int x1), (2, .int x2)] [.int x2, .ref 100] S R _
          refine u_cv (rest := []) rfl (by decide) mt_X12_gustStands v_tyM rfl rfl rfl (Nat.le_of_ble_eq_true rfl) (Nat.le_of_ble_eq_true rfl) (Nat.le_of_ble_eq_true rfl) (fun d' => c_X12_gustStands L xs m d' x2 S R) ?_
          rintro _ _ _ ⟨rfl, rfl, rfl⟩
          refine u_st rfl (fun _ => rfl) ?_
          show u_P L xs m d m_X12_feeds 35 [(0, .ref 100), (1, .int x1), (2, .int x2)] [.ref 100] (g_X12_gustStands x2 S) R _
          refine u_getr rfl v_tyM rfl ?_
          refine u_st rfl (fun _ => rfl) ?_
          refine u_st rfl (fun _ => rfl) ?_
          show u_P L xs m d m_X12_feeds 40 [(0, .ref 100), (1, .int x1), (2, .int x2)] [.ref 100, .int x2, .ref 118] (g_X12_gustStands x2 S) R _
          refine u_getr rfl v_tyM rfl ?_
          refine u_st rfl (fun _ => rfl) ?_
          show u_P L xs m d m_X12_feeds 44 [(0, .ref 100), (1, .int x1), (2, .int x2)] [.int x2, .ref 118, .int x2, .ref 118] (g_X12_gustStands x2 S) R _
          refine u_ialdE (v := (g_X12_gustStands x2 S) 117 x2.toInt.toNat) rfl rfl rfl (fun b51 b52 => ?_)
          have hD := hD b51 b52
          show u_P L xs m d m_X12_feeds 45 [(0, .ref 100), (1, .int x1), (2, .int x2)] [.int ((g_X12_gustStands x2 S) 117 x2.toInt.toNat), .int x2, .ref 118] (g_X12_gustStands x2 S) R _
          refine u_st rfl (fun _ => rfl) ?_
          refine u_st rfl (fun _ => rfl) ?_
          refine u_st rfl (fun _ => rfl) ?_
          show u_P L xs m d m_X12_feeds 50 [(0, .ref 100), (1, .int x1), (2, .int x2)] [.int (Int32.ofInt 20), .int (Int32.ofInt 102), .ref 100, .int ((g_X12_gustStands x2 S) 117 x2.toInt.toNat), .int x2, .ref 118] (g_X12_gustStands x2 S) R _
          refine u_cv (rest := [.int ((g_X12_gustStands x2 S) 117 x2.toInt.toNat), .int x2, .ref 118]) rfl (by decide) mt_X12_tells v_tyM rfl rfl rfl (Nat.le_of_ble_eq_true rfl) (Nat.le_of_ble_eq_true rfl) (Nat.le_of_ble_eq_true rfl) (fun d' => c_X12_tells L xs m d' (Int32.ofInt 102) (Int32.ofInt 20) (g_X12_gustStands x2 S) R) ?_
          rintro _ _ _ ⟨_, rfl, rfl, rfl, rfl⟩
          refine u_st rfl (fun _ => rfl) ?_
          refine u_st rfl (fun _ => rfl) ?_
          show u_P L xs m d m_X12_feeds 56 [(0, .ref 100), (1, .int x1), (2, .int x2)] [.int (Int32.ofInt 99), .int (((g_X12_gustStands x2 S) 117 x2.toInt.toNat) + (f_X12_tells (Int32.ofInt 102) (Int32.ofInt 20) (g_X12_gustStands x2 S))), .int x2, .ref 118] (g_X12_tells (Int32.ofInt 102) (Int32.ofInt 20) (g_X12_gustStands x2 S)) R _
          refine u_cs (ac := [.int (((g_X12_gustStands x2 S) 117 x2.toInt.toNat) + (f_X12_tells (Int32.ofInt 102) (Int32.ofInt 20) (g_X12_gustStands x2 S))), .int (Int32.ofInt 99)]) (rest := [.int x2, .ref 118]) rfl (by decide) mt_X12_held (fun _ => rfl) (Nat.le_of_ble_eq_true rfl) (Nat.le_of_ble_eq_true rfl) (fun d' => c_X12_held L xs m d' (((g_X12_gustStands x2 S) 117 x2.toInt.toNat) + (f_X12_tells (Int32.ofInt 102) (Int32.ofInt 20) (g_X12_gustStands x2 S))) (Int32.ofInt 99) (g_X12_tells (Int32.ofInt 102) (Int32.ofInt 20) (g_X12_gustStands x2 S)) R) ?_
          rintro _ _ _ ⟨_, rfl, rfl, rfl, rfl⟩
          show u_P L xs m d m_X12_feeds 59 [(0, .ref 100), (1, .int x1), (2, .int x2)] [.int (f_X12_held (((g_X12_gustStands x2 S) 117 x2.toInt.toNat) + (f_X12_tells (Int32.ofInt 102) (Int32.ofInt 20) (g_X12_gustStands x2 S))) (Int32.ofInt 99)), .int x2, .ref 118] (g_X12_tells (Int32.ofInt 102) (Int32.ofInt 20) (g_X12_gustStands x2 S)) R _
          refine u_iast rfl rfl (fun b61 b62 => ?_)
          have hD := hD b61 b62
          show u_P L xs m d m_X12_feeds 60 [(0, .ref 100), (1, .int x1), (2, .int x2)] [] (z_s (g_X12_tells (Int32.ofInt 102) (Int32.ofInt 20) (g_X12_gustStands x2 S)) 117 x2.toInt.toNat (f_X12_held (((g_X12_gustStands x2 S) 117 x2.toInt.toNat) + (f_X12_tells (Int32.ofInt 102) (Int32.ofInt 20) (g_X12_gustStands x2 S))) (Int32.ofInt 99))) R _
          refine u_st rfl (fun _ => rfl) ?_
          refine u_st rfl (fun _ => rfl) ?_
          refine u_lc (b := [(0, .ref 100), (1, .int x1), (2, .int (x2 + (Int32.ofInt 1)))]) (show ([2, 0, 1] : List Nat).Nodup by decide) (show ([0, 1, 2] : List Nat).Nodup by decide) (fun i => match i with | 0 => rfl | 1 => rfl | 2 => rfl | _ + 3 => rfl) ?_
          exact (ih m hm) d x1 (x2 + (Int32.ofInt 1)) (z_s (g_X12_tells (Int32.ofInt 102) (Int32.ofInt 20) (g_X12_gustStands x2 S)) 117 x2.toInt.toNat (f_X12_held (((g_X12_gustStands x2 S) 117 x2.toInt.toNat) + (f_X12_tells (Int32.ofInt 102) (Int32.ofInt 20) (g_X12_gustStands x2 S))) (Int32.ofInt 99))) hD
        · have hD := hD.2 h4
          show u_P L xs m d m_X12_feeds 26 [(0, .ref 100), (1, .int x1), (2, .int x2)] [] S R _
          refine u_st rfl (fun _ => rfl) ?_
          refine u_st rfl (fun _ => rfl) ?_
          refine u_st rfl (fun _ => rfl) ?_
          refine u_lc (b := [(0, .ref 100), (1, .int x1), (2, .int (x2 + (Int32.ofInt 1)))]) (show ([2, 0, 1] : List Nat).Nodup by decide) (show ([0, 1, 2] : List Nat).Nodup by decide) (fun i => match i with | 0 => rfl | 1 => rfl | 2 => rfl | _ + 3 => rfl) ?_
          exact (ih m hm) d x1 (x2 + (Int32.ofInt 1)) S hD
set_option maxRecDepth 4000 in
theorem w_X12_feeds (L : Nat) (xs : Nat → Int32) {R : v_Rf} (w : Int32) (H2 : Int32 → Int32 → v_Sf → Prop) (K : v_Sf → Prop) (k2 : ∀ (x1 : Int32) (x2 : Int32) (S : v_Sf), H2 x1 x2 S → D_X12_feeds_2 H2 K x1 x2 S) (n d : Nat) (S : v_Sf) (hD : D_X12_feeds w H2 K S) : u_P L xs n d m_X12_feeds 0 (lv_args 0 [.ref 100, .int w]) [] S R (z_V R K) := by
  unfold D_X12_feeds at hD
  show u_P L xs n d m_X12_feeds 0 [(0, .ref 100), (1, .int w)] [] S R _
  refine u_st rfl (fun _ => rfl) ?_
  refine u_st rfl (fun _ => rfl) ?_
  refine u_lc (b := [(0, .ref 100), (1, .int w), (2, .int (Int32.ofInt 0))]) (show ([2, 0, 1] : List Nat).Nodup by decide) (show ([0, 1, 2] : List Nat).Nodup by decide) (fun i => match i with | 0 => rfl | 1 => rfl | 2 => rfl | _ + 3 => rfl) ?_
  exact (hd_X12_feeds L xs w H2 K k2 n) d w (Int32.ofInt 0) S hD
noncomputable def r_X12_feeds_2 (x1 : Int32) : Nat → Nat → v_Sf → v_Sf
  | 0, k2, S => S
  | r + 1, k2, S => (if (S 124 x1.toInt.toNat) ≤ 0 then S else (if ¬ (f_X12_isIn (z_i k2) x1 S) = 0 then r_X12_feeds_2 x1 r (k2 + 1) (z_s (g_X12_tells (Int32.ofInt 102) (Int32.ofInt 20) (g_X12_gustStands (z_i k2) S)) 117 (z_i k2).toInt.toNat (f_X12_held (((g_X12_gustStands (z_i k2) S) 117 (z_i k2).toInt.toNat) + (f_X12_tells (Int32.ofInt 102) (Int32.ofInt 20) (g_X12_gustStands (z_i k2) S))) (Int32.ofInt 99))) else r_X12_feeds_2 x1 r (k2 + 1) S))
noncomputable def F_X12_feeds (w : Int32) (S : v_Sf) : v_Sf := r_X12_feeds_2 w (12 - 0) 0 S
noncomputable def g_X12_feeds (w : Int32) (S : v_Sf) : v_Sf := F_X12_feeds w S
theorem c_X12_feeds (L : Nat) (xs : Nat → Int32) (n d : Nat) (w : Int32) (S : v_Sf) (R : v_Rf) : u_P L xs n d m_X12_feeds 0 (lv_args 0 [.ref 100, .int w]) [] S R (z_V R (fun S1 => g_X12_feeds w S = S1)) := by
  refine w_X12_feeds L xs w (fun y1 y2 T => ∃ (k2 : Nat), k2 ≤ 12 ∧ z_i k2 = y2 ∧ w = y1 ∧ r_X12_feeds_2 w (12 - k2) k2 T = F_X12_feeds w S) (fun S1 => g_X12_feeds w S = S1) ?_ n d S ?_
  · rintro _ _ S1 ⟨k2, hkk, rfl, rfl, e⟩
    unfold D_X12_feeds_2
    rcases Nat.lt_or_ge k2 (12) with hk | hk
    · rw [show 12 - k2 = (12 - (k2 + 1)) + 1 by omega, r_X12_feeds_2] at e
      refine ⟨fun q1 => ?_, fun q1 => ?_⟩
      · exact absurd hk (Nat.not_lt.mpr (z_leB2 (B := 12) q1 (by decide) (by omega)))
      · intro _ _
        refine ⟨fun q2 => ?_, fun q2 => ?_⟩
        · rw [if_pos q2] at e
          exact e.symm
        · refine ⟨fun q3 => ?_, fun q3 => ?_⟩
          · intro _ _
            intro _ _
            rw [if_neg q2, if_pos q3] at e
            exact ⟨(k2 + 1), by omega, (z_i1 k2).symm, rfl, e⟩
          · rw [if_neg q2, if_neg q3] at e
            exact ⟨(k2 + 1), by omega, (z_i1 k2).symm, rfl, e⟩
    · rw [show 12 - k2 = 0 by omega, r_X12_feeds_2] at e
      refine ⟨fun q4 => ?_, fun q4 => ?_⟩
      · exact e.symm
      · exact absurd hk (Nat.not_le.mpr (z_ltB2 (B := 12) q4 (by decide) (by omega)))
  · unfold D_X12_feeds
    have e : r_X12_feeds_2 w (12 - 0) 0 S = F_X12_feeds w S := by rw [F_X12_feeds]
    exact ⟨0, by omega, rfl, rfl, e⟩
noncomputable abbrev m_X12_teaches : g_M := (g_cn 12, yX12_teaches, cX12_teaches, 4, none, g_look2 ttX12_teaches)
set_option maxRecDepth 20000 in
theorem mt_X12_teaches : g_mt 231 = some m_X12_teaches := rfl
noncomputable def D_X12_teaches_8  (H8 : Int32 → Int32 → Int32 → v_Sf → Prop) (K : v_Sf → Prop) (x1 : Int32) (x2 : Int32) (x3 : Int32) (S : v_Sf) : Prop := (((Int32.ofInt 12) ≤ x3 → K S) ∧ (¬ ((Int32.ofInt 12) ≤ x3) → ((x2 = (Int32.ofInt (-1)) → K S) ∧ (¬ (x2 = (Int32.ofInt (-1))) → (((f_X12_isIn x3 x1 S) = 0 → H8 x1 x2 (x3 + (Int32.ofInt 1)) S) ∧ (¬ ((f_X12_isIn x3 x1 S) = 0) → (0 ≤ x3.toInt → x3.toInt < 12 → (((¬ (f_X12_has (S 122 x3.toInt.toNat) x2) = 0) → H8 x1 x2 (x3 + (Int32.ofInt 1)) S) ∧ (¬ (¬ (f_X12_has (S 122 x3.toInt.toNat) x2) = 0) → (0 ≤ x2.toInt → x2.toInt < 10 → (0 ≤ x3.toInt → x3.toInt < 12 → ((((S 132 x2.toInt.toNat) &&& ((S 122 x3.toInt.toNat) ^^^ (Int32.ofInt (-1)))) = 0 → (((¬ (f_X12_says (Int32.ofInt 101) (z_s (g_X12_gustStands x3 S) 99 35 x2)) = 0) → (0 ≤ x3.toInt → x3.toInt < 12 → (0 ≤ x3.toInt → x3.toInt < 12 → H8 x1 x2 (x3 + (Int32.ofInt 1)) (z_s (z_s (g_X12_says (Int32.ofInt 101) (z_s (g_X12_gustStands x3 S) 99 35 x2)) 122 x3.toInt.toNat (((g_X12_says (Int32.ofInt 101) (z_s (g_X12_gustStands x3 S) 99 35 x2)) 122 x3.toInt.toNat) ||| ((Int32.ofInt 1) <<< (x2 &&& 31)))) 99 70 (((g_X12_says (Int32.ofInt 101) (z_s (g_X12_gustStands x3 S) 99 35 x2)) 99 70) + (Int32.ofInt 1)))))) ∧ (¬ (¬ (f_X12_says (Int32.ofInt 101) (z_s (g_X12_gustStands x3 S) 99 35 x2)) = 0) → H8 x1 x2 (x3 + (Int32.ofInt 1)) (g_X12_says (Int32.ofInt 101) (z_s (g_X12_gustStands x3 S) 99 35 x2))))) ∧ (¬ (((S 132 x2.toInt.toNat) &&& ((S 122 x3.toInt.toNat) ^^^ (Int32.ofInt (-1)))) = 0) → H8 x1 x2 (x3 + (Int32.ofInt 1)) S)))))))))))))
noncomputable def D_X12_teaches (w : Int32) (H8 : Int32 → Int32 → Int32 → v_Sf → Prop) (K : v_Sf → Prop) (S : v_Sf) : Prop := H8 w (f_X12_lessonOf w S) (Int32.ofInt 0) S
set_option maxRecDepth 4000 in
theorem hd_X12_teaches (L : Nat) (xs : Nat → Int32) {R : v_Rf} (w : Int32) (H8 : Int32 → Int32 → Int32 → v_Sf → Prop) (K : v_Sf → Prop) (k8 : ∀ (x1 : Int32) (x2 : Int32) (x3 : Int32) (S : v_Sf), H8 x1 x2 x3 S → D_X12_teaches_8 H8 K x1 x2 x3 S) : ∀ n, (∀ (d : Nat) (x1 : Int32) (x2 : Int32) (x3 : Int32) (S : v_Sf), H8 x1 x2 x3 S → u_P L xs n d m_X12_teaches 8 [(0, .ref 100), (1, .int x1), (2, .int x2), (3, .int x3)] [] S R (z_V R K)) := by
  intro n
  induction n using Nat.strongRecOn with
  | ind n ih =>
    intro d x1 x2 x3 S hD
    have hD := k8 x1 x2 x3 S hD
    unfold D_X12_teaches_8 at hD
    show u_P L xs n d m_X12_teaches 8 [(0, .ref 100), (1, .int x1), (2, .int x2), (3, .int x3)] [] S R _
    refine u_st1 rfl (fun _ => rfl) (fun m hm => ?_)
    refine u_st rfl (fun _ => rfl) ?_
    show u_P L xs m d m_X12_teaches 11 [(0, .ref 100), (1, .int x1), (2, .int x2), (3, .int x3)] [.int (Int32.ofInt 12), .int x3] S R _
    refine u_ic_ge rfl (fun h1 => ?_) (fun h1 => ?_)
    · have hD := hD.1 h1
      show u_P L xs m d m_X12_teaches 112 [(0, .ref 100), (1, .int x1), (2, .int x2), (3, .int x3)] [] S R _
      exact u_ret rfl rfl ⟨rfl, rfl, hD⟩
    · have hD := hD.2 h1
      show u_P L xs m d m_X12_teaches 14 [(0, .ref 100), (1, .int x1), (2, .int x2), (3, .int x3)] [] S R _
      refine u_st rfl (fun _ => rfl) ?_
      refine u_st rfl (fun _ => rfl) ?_
      show u_P L xs m d m_X12_teaches 16 [(0, .ref 100), (1, .int x1), (2, .int x2), (3, .int x3)] [.int (Int32.ofInt (-1)), .int x2] S R _
      refine u_ic_eq rfl (fun h2 => ?_) (fun h2 => ?_)
      · have hD := hD.1 h2
        show u_P L xs m d m_X12_teaches 112 [(0, .ref 100), (1, .int x1), (2, .int x2), (3, .int x3)] [] S R _
        exact u_ret rfl rfl ⟨rfl, rfl, hD⟩
      · have hD := hD.2 h2
        show u_P L xs m d m_X12_teaches 19 [(0, .ref 100), (1, .int x1), (2, .int x2), (3, .int x3)] [] S R _
        refine u_st rfl (fun _ => rfl) ?_
        refine u_st rfl (fun _ => rfl) ?_
        refine u_st rfl (fun _ => rfl) ?_
        show u_P L xs m d m_X12_teaches 22 [(0, .ref 100), (1, .int x1), (2, .int x2), (3, .int x3)] [.int x1, .int x3, .ref 100] S R _
        refine u_cv (rest := []) rfl (by decide) mt_X12_isIn v_tyM rfl rfl rfl (Nat.le_of_ble_eq_true rfl) (Nat.le_of_ble_eq_true rfl) (Nat.le_of_ble_eq_true rfl) (fun d' => c_X12_isIn L xs m d' x3 x1 S R) ?_
        rintro _ _ _ ⟨_, rfl, rfl, rfl, rfl⟩
        show u_P L xs m d m_X12_teaches 25 [(0, .ref 100), (1, .int x1), (2, .int x2), (3, .int x3)] [.int (f_X12_isIn x3 x1 S)] S R _
        refine u_if_eq rfl (fun h3 => ?_) (fun h3 => ?_)
        · have hD := hD.1 h3
          show u_P L xs m d m_X12_teaches 106 [(0, .ref 100), (1, .int x1), (2, .int x2), (3, .int x3)] [] S R _
          refine u_st rfl (fun _ => rfl) ?_
          refine u_st rfl (fun _ => rfl) ?_
          refine u_lc (b := [(0, .ref 100), (1, .int x1), (2, .int x2), (3, .int (x3 + (Int32.ofInt 1)))]) (show ([3, 0, 1, 2] : List Nat).Nodup by decide) (show ([0, 1, 2, 3] : List Nat).Nodup by decide) (fun i => match i with | 0 => rfl | 1 => rfl | 2 => rfl | 3 => rfl | _ + 4 => rfl) ?_
          exact (ih m hm) d x1 x2 (x3 + (Int32.ofInt 1)) S hD
        · have hD := hD.2 h3
          show u_P L xs m d m_X12_teaches 28 [(0, .ref 100), (1, .int x1), (2, .int x2), (3, .int x3)] [] S R _
          refine u_st rfl (fun _ => rfl) ?_
          show u_P L xs m d m_X12_teaches 29 [(0, .ref 100), (1, .int x1), (2, .int x2), (3, .int x3)] [.ref 100] S R _
          refine u_getr rfl v_tyM rfl ?_
          refine u_st rfl (fun _ => rfl) ?_
          show u_P L xs m d m_X12_teaches 33 [(0, .ref 100), (1, .int x1), (2, .int x2), (3, .int x3)] [.int x3, .ref 123] S R _
          refine u_ialdE (v := S 122 x3.toInt.toNat) rfl rfl rfl (fun b41 b42 => ?_)
          have hD := hD b41 b42
          show u_P L xs m d m_X12_teaches 34 [(0, .ref 100), (1, .int x1), (2, .int x2), (3, .int x3)] [.int (S 122 x3.toInt.toNat)] S R _
          refine u_st rfl (fun _ => rfl) ?_
          show u_P L xs m d m_X12_teaches 35 [(0, .ref 100), (1, .int x1), (2, .int x2), (3, .int x3)] [.int x2, .int (S 122 x3.toInt.toNat)] S R _
          refine u_cs (ac := [.int (S 122 x3.toInt.toNat), .int x2]) (rest := []) rfl (by decide) mt_X12_has (fun _ => rfl) (Nat.le_of_ble_eq_true rfl) (Nat.le_of_ble_eq_true rfl) (fun d' => c_X12_has L xs m d' (S 122 x3.toInt.toNat) x2 S R) ?_
          rintro _ _ _ ⟨_, rfl, rfl, rfl, rfl⟩
          show u_P L xs m d m_X12_teaches 38 [(0, .ref 100), (1, .int x1), (2, .int x2), (3, .int x3)] [.int (f_X12_has (S 122 x3.toInt.toNat) x2)] S R _
          refine u_if_ne rfl (fun h5 => ?_) (fun h5 => ?_)
          · have hD := hD.1 h5
            show u_P L xs m d m_X12_teaches 106 [(0, .ref 100), (1, .int x1), (2, .int x2), (3, .int x3)] [] S R _
            refine u_st rfl (fun _ => rfl) ?_
            refine u_st rfl (fun _ => rfl) ?_
            refine u_lc (b := [(0, .ref 100), (1, .int x1), (2, .int x2), (3, .int (x3 + (Int32.ofInt 1)))]) (show ([3, 0, 1, 2] : List Nat).Nodup by decide) (show ([0, 1, 2, 3] : List Nat).Nodup by decide) (fun i => match i with | 0 => rfl | 1 => rfl | 2 => rfl | 3 => rfl | _ + 4 => rfl) ?_
            exact (ih m hm) d x1 x2 (x3 + (Int32.ofInt 1)) S hD
          · have hD := hD.2 h5
            show u_P L xs m d m_X12_teaches 41 [(0, .ref 100), (1, .int x1), (2, .int x2), (3, .int x3)] [] S R _
            refine u_st rfl (fun _ => rfl) ?_
            show u_P L xs m d m_X12_teaches 42 [(0, .ref 100), (1, .int x1), (2, .int x2), (3, .int x3)] [.ref 100] S R _
            refine u_getr rfl v_tyM rfl ?_
            refine u_st rfl (fun _ => rfl) ?_
            show u_P L xs m d m_X12_teaches 46 [(0, .ref 100), (1, .int x1), (2, .int x2), (3, .int x3)] [.int x2, .ref 133] S R _
            refine u_ialdE (v := S 132 x2.toInt.toNat) rfl rfl rfl (fun b61 b62 => ?_)
            have hD := hD b61 b62
            show u_P L xs m d m_X12_teaches 47 [(0, .ref 100), (1, .int x1), (2, .int x2), (3, .int x3)] [.int (S 132 x2.toInt.toNat)] S R _
            refine u_st rfl (fun _ => rfl) ?_
            show u_P L xs m d m_X12_teaches 48 [(0, .ref 100), (1, .int x1), (2, .int x2), (3, .int x3)] [.ref 100, .int (S 132 x2.toInt.toNat)] S R _
            refine u_getr rfl v_tyM rfl ?_
            refine u_st rfl (fun _ => rfl) ?_
            show u_P L xs m d m_X12_teaches 52 [(0, .ref 100), (1, .int x1), (2, .int x2), (3, .int x3)] [.int x3, .ref 123, .int (S 132 x2.toInt.toNat)] S R _
            refine u_ialdE (v := S 122 x3.toInt.toNat) rfl rfl rfl (fun b71 b72 => ?_)
            have hD := hD b71 b72
            show u_P L xs m d m_X12_teaches 53 [(0, .ref 100), (1, .int x1), (2, .int x2), (3, .int x3)] [.int (S 122 x3.toInt.toNat), .int (S 132 x2.toInt.toNat)] S R _
            refine u_st rfl (fun _ => rfl) ?_
            refine u_st rfl (fun _ => rfl) ?_
            refine u_st rfl (fun _ => rfl) ?_
            show u_P L xs m d m_X12_teaches 56 [(0, .ref 100), (1, .int x1), (2, .int x2), (3, .int x3)] [.int ((S 132 x2.toInt.toNat) &&& ((S 122 x3.toInt.toNat) ^^^ (Int32.ofInt (-1))))] S R _
            refine u_if_eq rfl (fun h8 => ?_) (fun h8 => ?_)
            · have hD := hD.1 h8
              show u_P L xs m d m_X12_teaches 62 [(0, .ref 100), (1, .int x1), (2, .int x2), (3, .int x3)] [] S R _
              refine u_st rfl (fun _ => rfl) ?_
              refine u_st rfl (fun _ => rfl) ?_
              show u_P L xs m d m_X12_teaches 64 [(0, .ref 100), (1, .int x1), (2, .int x2), (3, .int x3)] [.int x3, .ref 100] S R _
              refine u_cv (rest := []) rfl (by decide) mt_X12_gustStands v_tyM rfl rfl rfl (Nat.le_of_ble_eq_true rfl) (Nat.le_of_ble_eq_true rfl) (Nat.le_of_ble_eq_true rfl) (fun d' => c_X12_gustStands L xs m d' x3 S R) ?_
              rintro _ _ _ ⟨rfl, rfl, rfl⟩
              refine u_st rfl (fun _ => rfl) ?_
              refine u_st rfl (fun _ => rfl) ?_
              show u_P L xs m d m_X12_teaches 69 [(0, .ref 100), (1, .int x1), (2, .int x2), (3, .int x3)] [.int x2, .ref 100] (g_X12_gustStands x3 S) R _
              refine u_put rfl v_tyM rfl ?_
              refine u_st rfl (fun _ => rfl) ?_
              refine u_st rfl (fun _ => rfl) ?_
              show u_P L xs m d m_X12_teaches 75 [(0, .ref 100), (1, .int x1), (2, .int x2), (3, .int x3)] [.int (Int32.ofInt 101), .ref 100] (z_s (g_X12_gustStands x3 S) 99 35 x2) R _
              refine u_cv (rest := []) rfl (by decide) mt_X12_says v_tyM rfl rfl rfl (Nat.le_of_ble_eq_true rfl) (Nat.le_of_ble_eq_true rfl) (Nat.le_of_ble_eq_true rfl) (fun d' => c_X12_says L xs m d' (Int32.ofInt 101) (z_s (g_X12_gustStands x3 S) 99 35 x2) R) ?_
              rintro _ _ _ ⟨_, rfl, rfl, rfl, rfl⟩
              show u_P L xs m d m_X12_teaches 78 [(0, .ref 100), (1, .int x1), (2, .int x2), (3, .int x3)] [.int (f_X12_says (Int32.ofInt 101) (z_s (g_X12_gustStands x3 S) 99 35 x2))] (g_X12_says (Int32.ofInt 101) (z_s (g_X12_gustStands x3 S) 99 35 x2)) R _
              refine u_if_ne rfl (fun h9 => ?_) (fun h9 => ?_)
              · have hD := hD.1 h9
                show u_P L xs m d m_X12_teaches 84 [(0, .ref 100), (1, .int x1), (2, .int x2), (3, .int x3)] [] (g_X12_says (Int32.ofInt 101) (z_s (g_X12_gustStands x3 S) 99 35 x2)) R _
                refine u_st rfl (fun _ => rfl) ?_
                show u_P L xs m d m_X12_teaches 85 [(0, .ref 100), (1, .int x1), (2, .int x2), (3, .int x3)] [.ref 100] (g_X12_says (Int32.ofInt 101) (z_s (g_X12_gustStands x3 S) 99 35 x2)) R _
                refine u_getr rfl v_tyM rfl ?_
                refine u_st rfl (fun _ => rfl) ?_
                refine u_st rfl (fun _ => rfl) ?_
                show u_P L xs m d m_X12_teaches 90 [(0, .ref 100), (1, .int x1), (2, .int x2), (3, .int x3)] [.int x3, .ref 123, .int x3, .ref 123] (g_X12_says (Int32.ofInt 101) (z_s (g_X12_gustStands x3 S) 99 35 x2)) R _
                refine u_ialdE (v := (g_X12_says (Int32.ofInt 101) (z_s (g_X12_gustStands x3 S) 99 35 x2)) 122 x3.toInt.toNat) rfl rfl rfl (fun b101 b102 => ?_)
                have hD := hD b101 b102
                show u_P L xs m d m_X12_teaches 91 [(0, .ref 100), (1, .int x1), (2, .int x2), (3, .int x3)] [.int ((g_X12_says (Int32.ofInt 101) (z_s (g_X12_gustStands x3 S) 99 35 x2)) 122 x3.toInt.toNat), .int x3, .ref 123] (g_X12_says (Int32.ofInt 101) (z_s (g_X12_gustStands x3 S) 99 35 x2)) R _
                refine u_st rfl (fun _ => rfl) ?_
                refine u_st rfl (fun _ => rfl) ?_
                refine u_st rfl (fun _ => rfl) ?_
                refine u_st rfl (fun _ => rfl) ?_
                show u_P L xs m d m_X12_teaches 95 [(0, .ref 100), (1, .int x1), (2, .int x2), (3, .int x3)] [.int (((g_X12_says (Int32.ofInt 101) (z_s (g_X12_gustStands x3 S) 99 35 x2)) 122 x3.toInt.toNat) ||| ((Int32.ofInt 1) <<< (x2 &&& 31))), .int x3, .ref 123] (g_X12_says (Int32.ofInt 101) (z_s (g_X12_gustStands x3 S) 99 35 x2)) R _
                refine u_iast rfl rfl (fun b111 b112 => ?_)
                have hD := hD b111 b112
                show u_P L xs m d m_X12_teaches 96 [(0, .ref 100), (1, .int x1), (2, .int x2), (3, .int x3)] [] (z_s (g_X12_says (Int32.ofInt 101) (z_s (g_X12_gustStands x3 S) 99 35 x2)) 122 x3.toInt.toNat (((g_X12_says (Int32.ofInt 101) (z_s (g_X12_gustStands x3 S) 99 35 x2)) 122 x3.toInt.toNat) ||| ((Int32.ofInt 1) <<< (x2 &&& 31)))) R _
                refine u_st rfl (fun _ => rfl) ?_
                refine u_st rfl (fun _ => rfl) ?_
                show u_P L xs m d m_X12_teaches 98 [(0, .ref 100), (1, .int x1), (2, .int x2), (3, .int x3)] [.ref 100, .ref 100] (z_s (g_X12_says (Int32.ofInt 101) (z_s (g_X12_gustStands x3 S) 99 35 x2)) 122 x3.toInt.toNat (((g_X12_says (Int32.ofInt 101) (z_s (g_X12_gustStands x3 S) 99 35 x2)) 122 x3.toInt.toNat) ||| ((Int32.ofInt 1) <<< (x2 &&& 31)))) R _
                refine u_getE (v := (g_X12_says (Int32.ofInt 101) (z_s (g_X12_gustStands x3 S) 99 35 x2)) 99 70) rfl v_tyM rfl (z_sn (fun h => absurd h.1 (by decide))) ?_
                refine u_st rfl (fun _ => rfl) ?_
                refine u_st rfl (fun _ => rfl) ?_
                show u_P L xs m d m_X12_teaches 103 [(0, .ref 100), (1, .int x1), (2, .int x2), (3, .int x3)] [.int (((g_X12_says (Int32.ofInt 101) (z_s (g_X12_gustStands x3 S) 99 35 x2)) 99 70) + (Int32.ofInt 1)), .ref 100] (z_s (g_X12_says (Int32.ofInt 101) (z_s (g_X12_gustStands x3 S) 99 35 x2)) 122 x3.toInt.toNat (((g_X12_says (Int32.ofInt 101) (z_s (g_X12_gustStands x3 S) 99 35 x2)) 122 x3.toInt.toNat) ||| ((Int32.ofInt 1) <<< (x2 &&& 31)))) R _
                refine u_put rfl v_tyM rfl ?_
                refine u_st rfl (fun _ => rfl) ?_
                refine u_st rfl (fun _ => rfl) ?_
                refine u_lc (b := [(0, .ref 100), (1, .int x1), (2, .int x2), (3, .int (x3 + (Int32.ofInt 1)))]) (show ([3, 0, 1, 2] : List Nat).Nodup by decide) (show ([0, 1, 2, 3] : List Nat).Nodup by decide) (fun i => match i with | 0 => rfl | 1 => rfl | 2 => rfl | 3 => rfl | _ + 4 => rfl) ?_
                exact (ih m hm) d x1 x2 (x3 + (Int32.ofInt 1)) (z_s (z_s (g_X12_says (Int32.ofInt 101) (z_s (g_X12_gustStands x3 S) 99 35 x2)) 122 x3.toInt.toNat (((g_X12_says (Int32.ofInt 101) (z_s (g_X12_gustStands x3 S) 99 35 x2)) 122 x3.toInt.toNat) ||| ((Int32.ofInt 1) <<< (x2 &&& 31)))) 99 70 (((g_X12_says (Int32.ofInt 101) (z_s (g_X12_gustStands x3 S) 99 35 x2)) 99 70) + (Int32.ofInt 1))) hD
              · have hD := hD.2 h9
                show u_P L xs m d m_X12_teaches 81 [(0, .ref 100), (1, .int x1), (2, .int x2), (3, .int x3)] [] (g_X12_says (Int32.ofInt 101) (z_s (g_X12_gustStands x3 S) 99 35 x2)) R _
                refine u_st rfl (fun _ => rfl) ?_
                refine u_st rfl (fun _ => rfl) ?_
                refine u_st rfl (fun _ => rfl) ?_
                refine u_lc (b := [(0, .ref 100), (1, .int x1), (2, .int x2), (3, .int (x3 + (Int32.ofInt 1)))]) (show ([3, 0, 1, 2] : List Nat).Nodup by decide) (show ([0, 1, 2, 3] : List Nat).Nodup by decide) (fun i => match i with | 0 => rfl | 1 => rfl | 2 => rfl | 3 => rfl | _ + 4 => rfl) ?_
                exact (ih m hm) d x1 x2 (x3 + (Int32.ofInt 1)) (g_X12_says (Int32.ofInt 101) (z_s (g_X12_gustStands x3 S) 99 35 x2)) hD
            · have hD := hD.2 h8
              show u_P L xs m d m_X12_teaches 59 [(0, .ref 100), (1, .int x1), (2, .int x2), (3, .int x3)] [] S R _
              refine u_st rfl (fun _ => rfl) ?_
              refine u_st rfl (fun _ => rfl) ?_
              refine u_st rfl (fun _ => rfl) ?_
              refine u_lc (b := [(0, .ref 100), (1, .int x1), (2, .int x2), (3, .int (x3 + (Int32.ofInt 1)))]) (show ([3, 0, 1, 2] : List Nat).Nodup by decide) (show ([0, 1, 2, 3] : List Nat).Nodup by decide) (fun i => match i with | 0 => rfl | 1 => rfl | 2 => rfl | 3 => rfl | _ + 4 => rfl) ?_
              exact (ih m hm) d x1 x2 (x3 + (Int32.ofInt 1)) S hD
set_option maxRecDepth 4000 in
theorem w_X12_teaches (L : Nat) (xs : Nat → Int32) {R : v_Rf} (w : Int32) (H8 : Int32 → Int32 → Int32 → v_Sf → Prop) (K : v_Sf → Prop) (k8 : ∀ (x1 : Int32) (x2 : Int32) (x3 : Int32) (S : v_Sf), H8 x1 x2 x3 S → D_X12_teaches_8 H8 K x1 x2 x3 S) (n d : Nat) (S : v_Sf) (hD : D_X12_teaches w H8 K S) : u_P L xs n d m_X12_teaches 0 (lv_args 0 [.ref 100, .int w]) [] S R (z_V R K) := by
  unfold D_X12_teaches at hD
  show u_P L xs n d m_X12_teaches 0 [(0, .ref 100), (1, .int w)] [] S R _
  refine u_st rfl (fun _ => rfl) ?_
  refine u_st rfl (fun _ => rfl) ?_
  show u_P L xs n d m_X12_teaches 2 [(0, .ref 100), (1, .int w)] [.int w, .ref 100] S R _
  refine u_cv (rest := []) rfl (by decide) mt_X12_lessonOf v_tyM rfl rfl rfl (Nat.le_of_ble_eq_true rfl) (Nat.le_of_ble_eq_true rfl) (Nat.le_of_ble_eq_true rfl) (fun d' => c_X12_lessonOf L xs n d' w S R) ?_
  rintro _ _ _ ⟨_, rfl, rfl, rfl, rfl⟩
  refine u_st rfl (fun _ => rfl) ?_
  refine u_st rfl (fun _ => rfl) ?_
  refine u_st rfl (fun _ => rfl) ?_
  refine u_lc (b := [(0, .ref 100), (1, .int w), (2, .int (f_X12_lessonOf w S)), (3, .int (Int32.ofInt 0))]) (show ([3, 2, 0, 1] : List Nat).Nodup by decide) (show ([0, 1, 2, 3] : List Nat).Nodup by decide) (fun i => match i with | 0 => rfl | 1 => rfl | 2 => rfl | 3 => rfl | _ + 4 => rfl) ?_
  exact (hd_X12_teaches L xs w H8 K k8 n) d w (f_X12_lessonOf w S) (Int32.ofInt 0) S hD
noncomputable def r_X12_teaches_8 (x1 : Int32) (x2 : Int32) : Nat → Nat → v_Sf → v_Sf
  | 0, k8, S => S
  | r + 1, k8, S => (if x2 = (Int32.ofInt (-1)) then S else (if (f_X12_isIn (z_i k8) x1 S) = 0 then r_X12_teaches_8 x1 x2 r (k8 + 1) S else (if ¬ (f_X12_has (S 122 (z_i k8).toInt.toNat) x2) = 0 then r_X12_teaches_8 x1 x2 r (k8 + 1) S else (if ((S 132 x2.toInt.toNat) &&& ((S 122 (z_i k8).toInt.toNat) ^^^ (Int32.ofInt (-1)))) = 0 then (if ¬ (f_X12_says (Int32.ofInt 101) (z_s (g_X12_gustStands (z_i k8) S) 99 35 x2)) = 0 then r_X12_teaches_8 x1 x2 r (k8 + 1) (z_s (z_s (g_X12_says (Int32.ofInt 101) (z_s (g_X12_gustStands (z_i k8) S) 99 35 x2)) 122 (z_i k8).toInt.toNat (((g_X12_says (Int32.ofInt 101) (z_s (g_X12_gustStands (z_i k8) S) 99 35 x2)) 122 (z_i k8).toInt.toNat) ||| ((Int32.ofInt 1) <<< (x2 &&& 31)))) 99 70 (((g_X12_says (Int32.ofInt 101) (z_s (g_X12_gustStands (z_i k8) S) 99 35 x2)) 99 70) + (Int32.ofInt 1))) else r_X12_teaches_8 x1 x2 r (k8 + 1) (g_X12_says (Int32.ofInt 101) (z_s (g_X12_gustStands (z_i k8) S) 99 35 x2))) else r_X12_teaches_8 x1 x2 r (k8 + 1) S))))
noncomputable def F_X12_teaches (w : Int32) (S : v_Sf) : v_Sf := r_X12_teaches_8 w (f_X12_lessonOf w S) (12 - 0) 0 S
noncomputable def g_X12_teaches (w : Int32) (S : v_Sf) : v_Sf := F_X12_teaches w S
theorem c_X12_teaches (L : Nat) (xs : Nat → Int32) (n d : Nat) (w : Int32) (S : v_Sf) (R : v_Rf) : u_P L xs n d m_X12_teaches 0 (lv_args 0 [.ref 100, .int w]) [] S R (z_V R (fun S1 => g_X12_teaches w S = S1)) := by
  refine w_X12_teaches L xs w (fun y1 y2 y3 T => ∃ (k8 : Nat), k8 ≤ 12 ∧ z_i k8 = y3 ∧ w = y1 ∧ f_X12_lessonOf w S = y2 ∧ r_X12_teaches_8 w (f_X12_lessonOf w S) (12 - k8) k8 T = F_X12_teaches w S) (fun S1 => g_X12_teaches w S = S1) ?_ n d S ?_
  · rintro _ _ _ S1 ⟨k8, hkk, rfl, rfl, rfl, e⟩
    unfold D_X12_teaches_8
    rcases Nat.lt_or_ge k8 (12) with hk | hk
    · rw [show 12 - k8 = (12 - (k8 + 1)) + 1 by omega, r_X12_teaches_8] at e
      refine ⟨fun q1 => ?_, fun q1 => ?_⟩
      · exact absurd hk (Nat.not_lt.mpr (z_leB2 (B := 12) q1 (by decide) (by omega)))
      · refine ⟨fun q2 => ?_, fun q2 => ?_⟩
        · rw [if_pos q2] at e
          exact e.symm
        · refine ⟨fun q3 => ?_, fun q3 => ?_⟩
          · rw [if_neg q2, if_pos q3] at e
            exact ⟨(k8 + 1), by omega, (z_i1 k8).symm, rfl, rfl, e⟩
          · intro _ _
            refine ⟨fun q4 => ?_, fun q4 => ?_⟩
            · rw [if_neg q2, if_neg q3, if_pos q4] at e
              exact ⟨(k8 + 1), by omega, (z_i1 k8).symm, rfl, rfl, e⟩
            · intro _ _
              intro _ _
              refine ⟨fun q5 => ?_, fun q5 => ?_⟩
              · refine ⟨fun q6 => ?_, fun q6 => ?_⟩
                · intro _ _
                  intro _ _
                  rw [if_neg q2, if_neg q3, if_neg q4, if_pos q5, if_pos q6] at e
                  exact ⟨(k8 + 1), by omega, (z_i1 k8).symm, rfl, rfl, e⟩
                · rw [if_neg q2, if_neg q3, if_neg q4, if_pos q5, if_neg q6] at e
                  exact ⟨(k8 + 1), by omega, (z_i1 k8).symm, rfl, rfl, e⟩
              · rw [if_neg q2, if_neg q3, if_neg q4, if_neg q5] at e
                exact ⟨(k8 + 1), by omega, (z_i1 k8).symm, rfl, rfl, e⟩
    · rw [show 12 - k8 = 0 by omega, r_X12_teaches_8] at e
      refine ⟨fun q7 => ?_, fun q7 => ?_⟩
      · exact e.symm
      · exact absurd hk (Nat.not_le.mpr (z_ltB2 (B := 12) q7 (by decide) (by omega)))
  · unfold D_X12_teaches
    have e : r_X12_teaches_8 w (f_X12_lessonOf w S) (12 - 0) 0 S = F_X12_teaches w S := by rw [F_X12_teaches]
    exact ⟨0, by omega, rfl, rfl, rfl, e⟩
noncomputable abbrev m_X12_wardsGo : g_M := (g_cn 12, yX12_wardsGo, cX12_wardsGo, 2, none, g_look2 ttX12_wardsGo)
set_option maxRecDepth 20000 in
theorem mt_X12_wardsGo : g_mt 232 = some m_X12_wardsGo := rfl
noncomputable def D_X12_wardsGo_2  (H2 : Int32 → v_Sf → Prop) (K : v_Sf → Prop) (x1 : Int32) (S : v_Sf) : Prop := (((Int32.ofInt 6) ≤ x1 → K S) ∧ (¬ ((Int32.ofInt 6) ≤ x1) → (((f_X12_isWell x1 S) = 0 → (0 ≤ x1.toInt → x1.toInt < 6 → (((S 127 x1.toInt.toNat) ≤ 0 → H2 (x1 + (Int32.ofInt 1)) S) ∧ (¬ ((S 127 x1.toInt.toNat) ≤ 0) → (0 ≤ x1.toInt → x1.toInt < 6 → (0 ≤ x1.toInt → x1.toInt < 6 → (¬ (S 127 x1.toInt.toNat) = 0 → (0 ≤ x1.toInt → x1.toInt < 6 → H2 (x1 + (Int32.ofInt 1)) (z_s S 128 x1.toInt.toNat (((S 128 x1.toInt.toNat) + (Int32.ofInt 1)) - ((S 128 x1.toInt.toNat) + (Int32.ofInt 1)) / (S 127 x1.toInt.toNat) * (S 127 x1.toInt.toNat))))))))))) ∧ (¬ ((f_X12_isWell x1 S) = 0) → (0 ≤ x1.toInt → x1.toInt < 6 → ((((g_X12_teaches x1 (g_X12_feeds x1 S)) 127 x1.toInt.toNat) ≤ 0 → H2 (x1 + (Int32.ofInt 1)) (g_X12_teaches x1 (g_X12_feeds x1 S))) ∧ (¬ (((g_X12_teaches x1 (g_X12_feeds x1 S)) 127 x1.toInt.toNat) ≤ 0) → (0 ≤ x1.toInt → x1.toInt < 6 → (0 ≤ x1.toInt → x1.toInt < 6 → (¬ ((g_X12_teaches x1 (g_X12_feeds x1 S)) 127 x1.toInt.toNat) = 0 → (0 ≤ x1.toInt → x1.toInt < 6 → H2 (x1 + (Int32.ofInt 1)) (z_s (g_X12_teaches x1 (g_X12_feeds x1 S)) 128 x1.toInt.toNat ((((g_X12_teaches x1 (g_X12_feeds x1 S)) 128 x1.toInt.toNat) + (Int32.ofInt 1)) - (((g_X12_teaches x1 (g_X12_feeds x1 S)) 128 x1.toInt.toNat) + (Int32.ofInt 1)) / ((g_X12_teaches x1 (g_X12_feeds x1 S)) 127 x1.toInt.toNat) * ((g_X12_teaches x1 (g_X12_feeds x1 S)) 127 x1.toInt.toNat))))))))))))))
noncomputable def D_X12_wardsGo  (H2 : Int32 → v_Sf → Prop) (K : v_Sf → Prop) (S : v_Sf) : Prop := H2 (Int32.ofInt 0) S
set_option maxRecDepth 4000 in
theorem hd_X12_wardsGo (L : Nat) (xs : Nat → Int32) {R : v_Rf}  (H2 : Int32 → v_Sf → Prop) (K : v_Sf → Prop) (k2 : ∀ (x1 : Int32) (S : v_Sf), H2 x1 S → D_X12_wardsGo_2 H2 K x1 S) : ∀ n, (∀ (d : Nat) (x1 : Int32) (S : v_Sf), H2 x1 S → u_P L xs n d m_X12_wardsGo 2 [(0, .ref 100), (1, .int x1)] [] S R (z_V R K)) := by
  intro n
  induction n using Nat.strongRecOn with
  | ind n ih =>
    intro d x1 S hD
    have hD := k2 x1 S hD
    unfold D_X12_wardsGo_2 at hD
    show u_P L xs n d m_X12_wardsGo 2 [(0, .ref 100), (1, .int x1)] [] S R _
    refine u_st1 rfl (fun _ => rfl) (fun m hm => ?_)
    refine u_st rfl (fun _ => rfl) ?_
    show u_P L xs m d m_X12_wardsGo 5 [(0, .ref 100), (1, .int x1)] [.int (Int32.ofInt 6), .int x1] S R _
    refine u_ic_ge rfl (fun h1 => ?_) (fun h1 => ?_)
    · have hD := hD.1 h1
      show u_P L xs m d m_X12_wardsGo 62 [(0, .ref 100), (1, .int x1)] [] S R _
      exact u_ret rfl rfl ⟨rfl, rfl, hD⟩
    · have hD := hD.2 h1
      show u_P L xs m d m_X12_wardsGo 8 [(0, .ref 100), (1, .int x1)] [] S R _
      refine u_st rfl (fun _ => rfl) ?_
      refine u_st rfl (fun _ => rfl) ?_
      show u_P L xs m d m_X12_wardsGo 10 [(0, .ref 100), (1, .int x1)] [.int x1, .ref 100] S R _
      refine u_cv (rest := []) rfl (by decide) mt_X12_isWell v_tyM rfl rfl rfl (Nat.le_of_ble_eq_true rfl) (Nat.le_of_ble_eq_true rfl) (Nat.le_of_ble_eq_true rfl) (fun d' => c_X12_isWell L xs m d' x1 S R) ?_
      rintro _ _ _ ⟨_, rfl, rfl, rfl, rfl⟩
      show u_P L xs m d m_X12_wardsGo 13 [(0, .ref 100), (1, .int x1)] [.int (f_X12_isWell x1 S)] S R _
      refine u_if_eq rfl (fun h2 => ?_) (fun h2 => ?_)
      · have hD := hD.1 h2
        show u_P L xs m d m_X12_wardsGo 26 [(0, .ref 100), (1, .int x1)] [] S R _
        refine u_st rfl (fun _ => rfl) ?_
        show u_P L xs m d m_X12_wardsGo 27 [(0, .ref 100), (1, .int x1)] [.ref 100] S R _
        refine u_getr rfl v_tyM rfl ?_
        refine u_st rfl (fun _ => rfl) ?_
        show u_P L xs m d m_X12_wardsGo 31 [(0, .ref 100), (1, .int x1)] [.int x1, .ref 128] S R _
        refine u_ialdE (v := S 127 x1.toInt.toNat) rfl rfl rfl (fun b31 b32 => ?_)
        have hD := hD b31 b32
        show u_P L xs m d m_X12_wardsGo 32 [(0, .ref 100), (1, .int x1)] [.int (S 127 x1.toInt.toNat)] S R _
        refine u_if_le rfl (fun h4 => ?_) (fun h4 => ?_)
        · have hD := hD.1 h4
          show u_P L xs m d m_X12_wardsGo 56 [(0, .ref 100), (1, .int x1)] [] S R _
          refine u_st rfl (fun _ => rfl) ?_
          refine u_st rfl (fun _ => rfl) ?_
          refine u_lc (b := [(0, .ref 100), (1, .int (x1 + (Int32.ofInt 1)))]) (show ([1, 0] : List Nat).Nodup by decide) (show ([0, 1] : List Nat).Nodup by decide) (fun i => match i with | 0 => rfl | 1 => rfl | _ + 2 => rfl) ?_
          exact (ih m hm) d (x1 + (Int32.ofInt 1)) S hD
        · have hD := hD.2 h4
          show u_P L xs m d m_X12_wardsGo 35 [(0, .ref 100), (1, .int x1)] [] S R _
          refine u_st rfl (fun _ => rfl) ?_
          show u_P L xs m d m_X12_wardsGo 36 [(0, .ref 100), (1, .int x1)] [.ref 100] S R _
          refine u_getr rfl v_tyM rfl ?_
          refine u_st rfl (fun _ => rfl) ?_
          refine u_st rfl (fun _ => rfl) ?_
          show u_P L xs m d m_X12_wardsGo 41 [(0, .ref 100), (1, .int x1)] [.ref 100, .int x1, .ref 129] S R _
          refine u_getr rfl v_tyM rfl ?_
          refine u_st rfl (fun _ => rfl) ?_
          show u_P L xs m d m_X12_wardsGo 45 [(0, .ref 100), (1, .int x1)] [.int x1, .ref 129, .int x1, .ref 129] S R _
          refine u_ialdE (v := S 128 x1.toInt.toNat) rfl rfl rfl (fun b51 b52 => ?_)
          have hD := hD b51 b52
          show u_P L xs m d m_X12_wardsGo 46 [(0, .ref 100), (1, .int x1)] [.int (S 128 x1.toInt.toNat), .int x1, .ref 129] S R _
          refine u_st rfl (fun _ => rfl) ?_
          refine u_st rfl (fun _ => rfl) ?_
          refine u_st rfl (fun _ => rfl) ?_
          show u_P L xs m d m_X12_wardsGo 49 [(0, .ref 100), (1, .int x1)] [.ref 100, .int ((S 128 x1.toInt.toNat) + (Int32.ofInt 1)), .int x1, .ref 129] S R _
          refine u_getr rfl v_tyM rfl ?_
          refine u_st rfl (fun _ => rfl) ?_
          show u_P L xs m d m_X12_wardsGo 53 [(0, .ref 100), (1, .int x1)] [.int x1, .ref 128, .int ((S 128 x1.toInt.toNat) + (Int32.ofInt 1)), .int x1, .ref 129] S R _
          refine u_ialdE (v := S 127 x1.toInt.toNat) rfl rfl rfl (fun b61 b62 => ?_)
          have hD := hD b61 b62
          show u_P L xs m d m_X12_wardsGo 54 [(0, .ref 100), (1, .int x1)] [.int (S 127 x1.toInt.toNat), .int ((S 128 x1.toInt.toNat) + (Int32.ofInt 1)), .int x1, .ref 129] S R _
          refine u_irem rfl (fun b7 => ?_)
          have hD := hD b7
          show u_P L xs m d m_X12_wardsGo 55 [(0, .ref 100), (1, .int x1)] [.int (((S 128 x1.toInt.toNat) + (Int32.ofInt 1)) - ((S 128 x1.toInt.toNat) + (Int32.ofInt 1)) / (S 127 x1.toInt.toNat) * (S 127 x1.toInt.toNat)), .int x1, .ref 129] S R _
          refine u_iast rfl rfl (fun b81 b82 => ?_)
          have hD := hD b81 b82
          show u_P L xs m d m_X12_wardsGo 56 [(0, .ref 100), (1, .int x1)] [] (z_s S 128 x1.toInt.toNat (((S 128 x1.toInt.toNat) + (Int32.ofInt 1)) - ((S 128 x1.toInt.toNat) + (Int32.ofInt 1)) / (S 127 x1.toInt.toNat) * (S 127 x1.toInt.toNat))) R _
          refine u_st rfl (fun _ => rfl) ?_
          refine u_st rfl (fun _ => rfl) ?_
          refine u_lc (b := [(0, .ref 100), (1, .int (x1 + (Int32.ofInt 1)))]) (show ([1, 0] : List Nat).Nodup by decide) (show ([0, 1] : List Nat).Nodup by decide) (fun i => match i with | 0 => rfl | 1 => rfl | _ + 2 => rfl) ?_
          exact (ih m hm) d (x1 + (Int32.ofInt 1)) (z_s S 128 x1.toInt.toNat (((S 128 x1.toInt.toNat) + (Int32.ofInt 1)) - ((S 128 x1.toInt.toNat) + (Int32.ofInt 1)) / (S 127 x1.toInt.toNat) * (S 127 x1.toInt.toNat))) hD
      · have hD := hD.2 h2
        show u_P L xs m d m_X12_wardsGo 16 [(0, .ref 100), (1, .int x1)] [] S R _
        refine u_st rfl (fun _ => rfl) ?_
        refine u_st rfl (fun _ => rfl) ?_
        show u_P L xs m d m_X12_wardsGo 18 [(0, .ref 100), (1, .int x1)] [.int x1, .ref 100] S R _
        refine u_cv (rest := []) rfl (by decide) mt_X12_feeds v_tyM rfl rfl rfl (Nat.le_of_ble_eq_true rfl) (Nat.le_of_ble_eq_true rfl) (Nat.le_of_ble_eq_true rfl) (fun d' => c_X12_feeds L xs m d' x1 S R) ?_
        rintro _ _ _ ⟨rfl, rfl, rfl⟩
        refine u_st rfl (fun _ => rfl) ?_
        refine u_st rfl (fun _ => rfl) ?_
        show u_P L xs m d m_X12_wardsGo 23 [(0, .ref 100), (1, .int x1)] [.int x1, .ref 100] (g_X12_feeds x1 S) R _
        refine u_cv (rest := []) rfl (by decide) mt_X12_teaches v_tyM rfl rfl rfl (Nat.le_of_ble_eq_true rfl) (Nat.le_of_ble_eq_true rfl) (Nat.le_of_ble_eq_true rfl) (fun d' => c_X12_teaches L xs m d' x1 (g_X12_feeds x1 S) R) ?_
        rintro _ _ _ ⟨rfl, rfl, rfl⟩
        refine u_st rfl (fun _ => rfl) ?_
        show u_P L xs m d m_X12_wardsGo 27 [(0, .ref 100), (1, .int x1)] [.ref 100] (g_X12_teaches x1 (g_X12_feeds x1 S)) R _
        refine u_getr rfl v_tyM rfl ?_
        refine u_st rfl (fun _ => rfl) ?_
        show u_P L xs m d m_X12_wardsGo 31 [(0, .ref 100), (1, .int x1)] [.int x1, .ref 128] (g_X12_teaches x1 (g_X12_feeds x1 S)) R _
        refine u_ialdE (v := (g_X12_teaches x1 (g_X12_feeds x1 S)) 127 x1.toInt.toNat) rfl rfl rfl (fun b91 b92 => ?_)
        have hD := hD b91 b92
        show u_P L xs m d m_X12_wardsGo 32 [(0, .ref 100), (1, .int x1)] [.int ((g_X12_teaches x1 (g_X12_feeds x1 S)) 127 x1.toInt.toNat)] (g_X12_teaches x1 (g_X12_feeds x1 S)) R _
        refine u_if_le rfl (fun h10 => ?_) (fun h10 => ?_)
        · have hD := hD.1 h10
          show u_P L xs m d m_X12_wardsGo 56 [(0, .ref 100), (1, .int x1)] [] (g_X12_teaches x1 (g_X12_feeds x1 S)) R _
          refine u_st rfl (fun _ => rfl) ?_
          refine u_st rfl (fun _ => rfl) ?_
          refine u_lc (b := [(0, .ref 100), (1, .int (x1 + (Int32.ofInt 1)))]) (show ([1, 0] : List Nat).Nodup by decide) (show ([0, 1] : List Nat).Nodup by decide) (fun i => match i with | 0 => rfl | 1 => rfl | _ + 2 => rfl) ?_
          exact (ih m hm) d (x1 + (Int32.ofInt 1)) (g_X12_teaches x1 (g_X12_feeds x1 S)) hD
        · have hD := hD.2 h10
          show u_P L xs m d m_X12_wardsGo 35 [(0, .ref 100), (1, .int x1)] [] (g_X12_teaches x1 (g_X12_feeds x1 S)) R _
          refine u_st rfl (fun _ => rfl) ?_
          show u_P L xs m d m_X12_wardsGo 36 [(0, .ref 100), (1, .int x1)] [.ref 100] (g_X12_teaches x1 (g_X12_feeds x1 S)) R _
          refine u_getr rfl v_tyM rfl ?_
          refine u_st rfl (fun _ => rfl) ?_
          refine u_st rfl (fun _ => rfl) ?_
          show u_P L xs m d m_X12_wardsGo 41 [(0, .ref 100), (1, .int x1)] [.ref 100, .int x1, .ref 129] (g_X12_teaches x1 (g_X12_feeds x1 S)) R _
          refine u_getr rfl v_tyM rfl ?_
          refine u_st rfl (fun _ => rfl) ?_
          show u_P L xs m d m_X12_wardsGo 45 [(0, .ref 100), (1, .int x1)] [.int x1, .ref 129, .int x1, .ref 129] (g_X12_teaches x1 (g_X12_feeds x1 S)) R _
          refine u_ialdE (v := (g_X12_teaches x1 (g_X12_feeds x1 S)) 128 x1.toInt.toNat) rfl rfl rfl (fun b111 b112 => ?_)
          have hD := hD b111 b112
          show u_P L xs m d m_X12_wardsGo 46 [(0, .ref 100), (1, .int x1)] [.int ((g_X12_teaches x1 (g_X12_feeds x1 S)) 128 x1.toInt.toNat), .int x1, .ref 129] (g_X12_teaches x1 (g_X12_feeds x1 S)) R _
          refine u_st rfl (fun _ => rfl) ?_
          refine u_st rfl (fun _ => rfl) ?_
          refine u_st rfl (fun _ => rfl) ?_
          show u_P L xs m d m_X12_wardsGo 49 [(0, .ref 100), (1, .int x1)] [.ref 100, .int (((g_X12_teaches x1 (g_X12_feeds x1 S)) 128 x1.toInt.toNat) + (Int32.ofInt 1)), .int x1, .ref 129] (g_X12_teaches x1 (g_X12_feeds x1 S)) R _
          refine u_getr rfl v_tyM rfl ?_
          refine u_st rfl (fun _ => rfl) ?_
          show u_P L xs m d m_X12_wardsGo 53 [(0, .ref 100), (1, .int x1)] [.int x1, .ref 128, .int (((g_X12_teaches x1 (g_X12_feeds x1 S)) 128 x1.toInt.toNat) + (Int32.ofInt 1)), .int x1, .ref 129] (g_X12_teaches x1 (g_X12_feeds x1 S)) R _
          refine u_ialdE (v := (g_X12_teaches x1 (g_X12_feeds x1 S)) 127 x1.toInt.toNat) rfl rfl rfl (fun b121 b122 => ?_)
          have hD := hD b121 b122
          show u_P L xs m d m_X12_wardsGo 54 [(0, .ref 100), (1, .int x1)] [.int ((g_X12_teaches x1 (g_X12_feeds x1 S)) 127 x1.toInt.toNat), .int (((g_X12_teaches x1 (g_X12_feeds x1 S)) 128 x1.toInt.toNat) + (Int32.ofInt 1)), .int x1, .ref 129] (g_X12_teaches x1 (g_X12_feeds x1 S)) R _
          refine u_irem rfl (fun b13 => ?_)
          have hD := hD b13
          show u_P L xs m d m_X12_wardsGo 55 [(0, .ref 100), (1, .int x1)] [.int ((((g_X12_teaches x1 (g_X12_feeds x1 S)) 128 x1.toInt.toNat) + (Int32.ofInt 1)) - (((g_X12_teaches x1 (g_X12_feeds x1 S)) 128 x1.toInt.toNat) + (Int32.ofInt 1)) / ((g_X12_teaches x1 (g_X12_feeds x1 S)) 127 x1.toInt.toNat) * ((g_X12_teaches x1 (g_X12_feeds x1 S)) 127 x1.toInt.toNat)), .int x1, .ref 129] (g_X12_teaches x1 (g_X12_feeds x1 S)) R _
          refine u_iast rfl rfl (fun b141 b142 => ?_)
          have hD := hD b141 b142
          show u_P L xs m d m_X12_wardsGo 56 [(0, .ref 100), (1, .int x1)] [] (z_s (g_X12_teaches x1 (g_X12_feeds x1 S)) 128 x1.toInt.toNat ((((g_X12_teaches x1 (g_X12_feeds x1 S)) 128 x1.toInt.toNat) + (Int32.ofInt 1)) - (((g_X12_teaches x1 (g_X12_feeds x1 S)) 128 x1.toInt.toNat) + (Int32.ofInt 1)) / ((g_X12_teaches x1 (g_X12_feeds x1 S)) 127 x1.toInt.toNat) * ((g_X12_teaches x1 (g_X12_feeds x1 S)) 127 x1.toInt.toNat))) R _
          refine u_st rfl (fun _ => rfl) ?_
          refine u_st rfl (fun _ => rfl) ?_
          refine u_lc (b := [(0, .ref 100), (1, .int (x1 + (Int32.ofInt 1)))]) (show ([1, 0] : List Nat).Nodup by decide) (show ([0, 1] : List Nat).Nodup by decide) (fun i => match i with | 0 => rfl | 1 => rfl | _ + 2 => rfl) ?_
          exact (ih m hm) d (x1 + (Int32.ofInt 1)) (z_s (g_X12_teaches x1 (g_X12_feeds x1 S)) 128 x1.toInt.toNat ((((g_X12_teaches x1 (g_X12_feeds x1 S)) 128 x1.toInt.toNat) + (Int32.ofInt 1)) - (((g_X12_teaches x1 (g_X12_feeds x1 S)) 128 x1.toInt.toNat) + (Int32.ofInt 1)) / ((g_X12_teaches x1 (g_X12_feeds x1 S)) 127 x1.toInt.toNat) * ((g_X12_teaches x1 (g_X12_feeds x1 S)) 127 x1.toInt.toNat))) hD
set_option maxRecDepth 4000 in
theorem w_X12_wardsGo (L : Nat) (xs : Nat → Int32) {R : v_Rf}  (H2 : Int32 → v_Sf → Prop) (K : v_Sf → Prop) (k2 : ∀ (x1 : Int32) (S : v_Sf), H2 x1 S → D_X12_wardsGo_2 H2 K x1 S) (n d : Nat) (S : v_Sf) (hD : D_X12_wardsGo H2 K S) : u_P L xs n d m_X12_wardsGo 0 (lv_args 0 [.ref 100]) [] S R (z_V R K) := by
  unfold D_X12_wardsGo at hD
  show u_P L xs n d m_X12_wardsGo 0 [(0, .ref 100)] [] S R _
  refine u_st rfl (fun _ => rfl) ?_
  refine u_st rfl (fun _ => rfl) ?_
  refine u_lc (b := [(0, .ref 100), (1, .int (Int32.ofInt 0))]) (show ([1, 0] : List Nat).Nodup by decide) (show ([0, 1] : List Nat).Nodup by decide) (fun i => match i with | 0 => rfl | 1 => rfl | _ + 2 => rfl) ?_
  exact (hd_X12_wardsGo L xs H2 K k2 n) d (Int32.ofInt 0) S hD
noncomputable def r_X12_wardsGo_2  : Nat → Nat → v_Sf → v_Sf
  | 0, k2, S => S
  | r + 1, k2, S => (if (f_X12_isWell (z_i k2) S) = 0 then (if (S 127 (z_i k2).toInt.toNat) ≤ 0 then r_X12_wardsGo_2 r (k2 + 1) S else r_X12_wardsGo_2 r (k2 + 1) (z_s S 128 (z_i k2).toInt.toNat (((S 128 (z_i k2).toInt.toNat) + (Int32.ofInt 1)) - ((S 128 (z_i k2).toInt.toNat) + (Int32.ofInt 1)) / (S 127 (z_i k2).toInt.toNat) * (S 127 (z_i k2).toInt.toNat)))) else (if ((g_X12_teaches (z_i k2) (g_X12_feeds (z_i k2) S)) 127 (z_i k2).toInt.toNat) ≤ 0 then r_X12_wardsGo_2 r (k2 + 1) (g_X12_teaches (z_i k2) (g_X12_feeds (z_i k2) S)) else r_X12_wardsGo_2 r (k2 + 1) (z_s (g_X12_teaches (z_i k2) (g_X12_feeds (z_i k2) S)) 128 (z_i k2).toInt.toNat ((((g_X12_teaches (z_i k2) (g_X12_feeds (z_i k2) S)) 128 (z_i k2).toInt.toNat) + (Int32.ofInt 1)) - (((g_X12_teaches (z_i k2) (g_X12_feeds (z_i k2) S)) 128 (z_i k2).toInt.toNat) + (Int32.ofInt 1)) / ((g_X12_teaches (z_i k2) (g_X12_feeds (z_i k2) S)) 127 (z_i k2).toInt.toNat) * ((g_X12_teaches (z_i k2) (g_X12_feeds (z_i k2) S)) 127 (z_i k2).toInt.toNat)))))
noncomputable def F_X12_wardsGo  (S : v_Sf) : v_Sf := r_X12_wardsGo_2 (6 - 0) 0 S
noncomputable def g_X12_wardsGo  (S : v_Sf) : v_Sf := F_X12_wardsGo  S
theorem c_X12_wardsGo (L : Nat) (xs : Nat → Int32) (n d : Nat)  (S : v_Sf) (R : v_Rf) : u_P L xs n d m_X12_wardsGo 0 (lv_args 0 [.ref 100]) [] S R (z_V R (fun S1 => g_X12_wardsGo  S = S1)) := by
  refine w_X12_wardsGo L xs  (fun y1 T => ∃ (k2 : Nat), k2 ≤ 6 ∧ z_i k2 = y1 ∧ r_X12_wardsGo_2 (6 - k2) k2 T = F_X12_wardsGo  S) (fun S1 => g_X12_wardsGo  S = S1) ?_ n d S ?_
  · rintro _ S1 ⟨k2, hkk, rfl, e⟩
    unfold D_X12_wardsGo_2
    rcases Nat.lt_or_ge k2 (6) with hk | hk
    · rw [show 6 - k2 = (6 - (k2 + 1)) + 1 by omega, r_X12_wardsGo_2] at e
      refine ⟨fun q1 => ?_, fun q1 => ?_⟩
      · exact absurd hk (Nat.not_lt.mpr (z_leB2 (B := 6) q1 (by decide) (by omega)))
      · refine ⟨fun q2 => ?_, fun q2 => ?_⟩
        · intro _ _
          refine ⟨fun q3 => ?_, fun q3 => ?_⟩
          · rw [if_pos q2, if_pos q3] at e
            exact ⟨(k2 + 1), by omega, (z_i1 k2).symm, e⟩
          · intro _ _
            intro _ _
            intro _
            intro _ _
            rw [if_pos q2, if_neg q3] at e
            exact ⟨(k2 + 1), by omega, (z_i1 k2).symm, e⟩
        · intro _ _
          refine ⟨fun q4 => ?_, fun q4 => ?_⟩
          · rw [if_neg q2, if_pos q4] at e
            exact ⟨(k2 + 1), by omega, (z_i1 k2).symm, e⟩
          · intro _ _
            intro _ _
            intro _
            intro _ _
            rw [if_neg q2, if_neg q4] at e
            exact ⟨(k2 + 1), by omega, (z_i1 k2).symm, e⟩
    · rw [show 6 - k2 = 0 by omega, r_X12_wardsGo_2] at e
      refine ⟨fun q5 => ?_, fun q5 => ?_⟩
      · exact e.symm
      · exact absurd hk (Nat.not_le.mpr (z_ltB2 (B := 6) q5 (by decide) (by omega)))
  · unfold D_X12_wardsGo
    have e : r_X12_wardsGo_2 (6 - 0) 0 S = F_X12_wardsGo  S := by rw [F_X12_wardsGo]
    exact ⟨0, by omega, rfl, e⟩
noncomputable abbrev m_X12_breaks : g_M := (g_cn 12, yX12_breaks, cX12_breaks, 3, none, g_look2 ttX12_breaks)
set_option maxRecDepth 20000 in
theorem mt_X12_breaks : g_mt 233 = some m_X12_breaks := rfl
noncomputable def D_X12_breaks_2  (H2 : Int32 → v_Sf → Prop) (K : v_Sf → Prop) (x1 : Int32) (S : v_Sf) : Prop := (((Int32.ofInt 12) ≤ x1 → K S) ∧ (¬ ((Int32.ofInt 12) ≤ x1) → (0 ≤ x1.toInt → x1.toInt < 12 → (((¬ (S 116 x1.toInt.toNat) = 0) → H2 (x1 + (Int32.ofInt 1)) (z_s (z_s (g_X12_tells (Int32.ofInt 98) (Int32.ofInt 20) (g_X12_gustStands x1 S)) 99 61 (((g_X12_tells (Int32.ofInt 98) (Int32.ofInt 20) (g_X12_gustStands x1 S)) 99 61) + (f_X12_tells (Int32.ofInt 98) (Int32.ofInt 20) (g_X12_gustStands x1 S)))) 99 71 (((g_X12_tells (Int32.ofInt 98) (Int32.ofInt 20) (g_X12_gustStands x1 S)) 99 71) + (f_X12_tells (Int32.ofInt 98) (Int32.ofInt 20) (g_X12_gustStands x1 S))))) ∧ (¬ (¬ (S 116 x1.toInt.toNat) = 0) → H2 (x1 + (Int32.ofInt 1)) S)))))
noncomputable def D_X12_breaks  (H2 : Int32 → v_Sf → Prop) (K : v_Sf → Prop) (S : v_Sf) : Prop := H2 (Int32.ofInt 0) S
set_option maxRecDepth 4000 in
theorem hd_X12_breaks (L : Nat) (xs : Nat → Int32) {R : v_Rf}  (H2 : Int32 → v_Sf → Prop) (K : v_Sf → Prop) (k2 : ∀ (x1 : Int32) (S : v_Sf), H2 x1 S → D_X12_breaks_2 H2 K x1 S) : ∀ n, (∀ (d : Nat) (x1 : Int32) (S : v_Sf), H2 x1 S → u_P L xs n d m_X12_breaks 2 [(0, .ref 100), (1, .int x1)] [] S R (z_V R K)) ∧ (∀ (d : Nat) (j2 : Int32) (x1 : Int32) (S : v_Sf), H2 x1 S → u_P L xs n d m_X12_breaks 2 [(0, .ref 100), (1, .int x1), (2, .int j2)] [] S R (z_V R K)) := by
  intro n
  induction n using Nat.strongRecOn with
  | ind n ih =>
    refine ⟨?_, ?_⟩
    · intro d x1 S hD
      have hD := k2 x1 S hD
      unfold D_X12_breaks_2 at hD
      show u_P L xs n d m_X12_breaks 2 [(0, .ref 100), (1, .int x1)] [] S R _
      refine u_st1 rfl (fun _ => rfl) (fun m hm => ?_)
      refine u_st rfl (fun _ => rfl) ?_
      show u_P L xs m d m_X12_breaks 5 [(0, .ref 100), (1, .int x1)] [.int (Int32.ofInt 12), .int x1] S R _
      refine u_ic_ge rfl (fun h1 => ?_) (fun h1 => ?_)
      · have hD := hD.1 h1
        show u_P L xs m d m_X12_breaks 60 [(0, .ref 100), (1, .int x1)] [] S R _
        exact u_ret rfl rfl ⟨rfl, rfl, hD⟩
      · have hD := hD.2 h1
        show u_P L xs m d m_X12_breaks 8 [(0, .ref 100), (1, .int x1)] [] S R _
        refine u_st rfl (fun _ => rfl) ?_
        show u_P L xs m d m_X12_breaks 9 [(0, .ref 100), (1, .int x1)] [.ref 100] S R _
        refine u_getr rfl v_tyM rfl ?_
        refine u_st rfl (fun _ => rfl) ?_
        show u_P L xs m d m_X12_breaks 13 [(0, .ref 100), (1, .int x1)] [.int x1, .ref 117] S R _
        refine u_baldE (v := S 116 x1.toInt.toNat) rfl rfl (by decide) rfl (fun b21 b22 => ?_)
        have hD := hD b21 b22
        show u_P L xs m d m_X12_breaks 14 [(0, .ref 100), (1, .int x1)] [.int (S 116 x1.toInt.toNat)] S R _
        refine u_if_ne rfl (fun h3 => ?_) (fun h3 => ?_)
        · have hD := hD.1 h3
          show u_P L xs m d m_X12_breaks 20 [(0, .ref 100), (1, .int x1)] [] S R _
          refine u_st rfl (fun _ => rfl) ?_
          refine u_st rfl (fun _ => rfl) ?_
          show u_P L xs m d m_X12_breaks 22 [(0, .ref 100), (1, .int x1)] [.int x1, .ref 100] S R _
          refine u_cv (rest := []) rfl (by decide) mt_X12_gustStands v_tyM rfl rfl rfl (Nat.le_of_ble_eq_true rfl) (Nat.le_of_ble_eq_true rfl) (Nat.le_of_ble_eq_true rfl) (fun d' => c_X12_gustStands L xs m d' x1 S R) ?_
          rintro _ _ _ ⟨rfl, rfl, rfl⟩
          refine u_st rfl (fun _ => rfl) ?_
          refine u_st rfl (fun _ => rfl) ?_
          refine u_st rfl (fun _ => rfl) ?_
          show u_P L xs m d m_X12_breaks 30 [(0, .ref 100), (1, .int x1)] [.int (Int32.ofInt 20), .int (Int32.ofInt 98), .ref 100] (g_X12_gustStands x1 S) R _
          refine u_cv (rest := []) rfl (by decide) mt_X12_tells v_tyM rfl rfl rfl (Nat.le_of_ble_eq_true rfl) (Nat.le_of_ble_eq_true rfl) (Nat.le_of_ble_eq_true rfl) (fun d' => c_X12_tells L xs m d' (Int32.ofInt 98) (Int32.ofInt 20) (g_X12_gustStands x1 S) R) ?_
          rintro _ _ _ ⟨_, rfl, rfl, rfl, rfl⟩
          refine u_st rfl (fun _ => rfl) ?_
          refine u_st rfl (fun _ => rfl) ?_
          refine u_st rfl (fun _ => rfl) ?_
          show u_P L xs m d m_X12_breaks 36 [(2, .int (f_X12_tells (Int32.ofInt 98) (Int32.ofInt 20) (g_X12_gustStands x1 S))), (0, .ref 100), (1, .int x1)] [.ref 100, .ref 100] (g_X12_tells (Int32.ofInt 98) (Int32.ofInt 20) (g_X12_gustStands x1 S)) R _
          refine u_getE (v := (g_X12_tells (Int32.ofInt 98) (Int32.ofInt 20) (g_X12_gustStands x1 S)) 99 61) rfl v_tyM rfl rfl ?_
          refine u_st rfl (fun _ => rfl) ?_
          refine u_st rfl (fun _ => rfl) ?_
          show u_P L xs m d m_X12_breaks 41 [(2, .int (f_X12_tells (Int32.ofInt 98) (Int32.ofInt 20) (g_X12_gustStands x1 S))), (0, .ref 100), (1, .int x1)] [.int (((g_X12_tells (Int32.ofInt 98) (Int32.ofInt 20) (g_X12_gustStands x1 S)) 99 61) + (f_X12_tells (Int32.ofInt 98) (Int32.ofInt 20) (g_X12_gustStands x1 S))), .ref 100] (g_X12_tells (Int32.ofInt 98) (Int32.ofInt 20) (g_X12_gustStands x1 S)) R _
          refine u_put rfl v_tyM rfl ?_
          refine u_st rfl (fun _ => rfl) ?_
          refine u_st rfl (fun _ => rfl) ?_
          show u_P L xs m d m_X12_breaks 46 [(2, .int (f_X12_tells (Int32.ofInt 98) (Int32.ofInt 20) (g_X12_gustStands x1 S))), (0, .ref 100), (1, .int x1)] [.ref 100, .ref 100] (z_s (g_X12_tells (Int32.ofInt 98) (Int32.ofInt 20) (g_X12_gustStands x1 S)) 99 61 (((g_X12_tells (Int32.ofInt 98) (Int32.ofInt 20) (g_X12_gustStands x1 S)) 99 61) + (f_X12_tells (Int32.ofInt 98) (Int32.ofInt 20) (g_X12_gustStands x1 S)))) R _
          refine u_getE (v := (g_X12_tells (Int32.ofInt 98) (Int32.ofInt 20) (g_X12_gustStands x1 S)) 99 71) rfl v_tyM rfl (z_sn (fun h => absurd h.2 (by decide))) ?_
          refine u_st rfl (fun _ => rfl) ?_
          refine u_st rfl (fun _ => rfl) ?_
          show u_P L xs m d m_X12_breaks 51 [(2, .int (f_X12_tells (Int32.ofInt 98) (Int32.ofInt 20) (g_X12_gustStands x1 S))), (0, .ref 100), (1, .int x1)] [.int (((g_X12_tells (Int32.ofInt 98) (Int32.ofInt 20) (g_X12_gustStands x1 S)) 99 71) + (f_X12_tells (Int32.ofInt 98) (Int32.ofInt 20) (g_X12_gustStands x1 S))), .ref 100] (z_s (g_X12_tells (Int32.ofInt 98) (Int32.ofInt 20) (g_X12_gustStands x1 S)) 99 61 (((g_X12_tells (Int32.ofInt 98) (Int32.ofInt 20) (g_X12_gustStands x1 S)) 99 61) + (f_X12_tells (Int32.ofInt 98) (Int32.ofInt 20) (g_X12_gustStands x1 S)))) R _
          refine u_put rfl v_tyM rfl ?_
          refine u_st rfl (fun _ => rfl) ?_
          refine u_st rfl (fun _ => rfl) ?_
          refine u_lc (b := [(0, .ref 100), (1, .int (x1 + (Int32.ofInt 1))), (2, .int (f_X12_tells (Int32.ofInt 98) (Int32.ofInt 20) (g_X12_gustStands x1 S)))]) (show ([1, 2, 0] : List Nat).Nodup by decide) (show ([0, 1, 2] : List Nat).Nodup by decide) (fun i => match i with | 0 => rfl | 1 => rfl | 2 => rfl | _ + 3 => rfl) ?_
          exact (ih m hm).2 d (f_X12_tells (Int32.ofInt 98) (Int32.ofInt 20) (g_X12_gustStands x1 S)) (x1 + (Int32.ofInt 1)) (z_s (z_s (g_X12_tells (Int32.ofInt 98) (Int32.ofInt 20) (g_X12_gustStands x1 S)) 99 61 (((g_X12_tells (Int32.ofInt 98) (Int32.ofInt 20) (g_X12_gustStands x1 S)) 99 61) + (f_X12_tells (Int32.ofInt 98) (Int32.ofInt 20) (g_X12_gustStands x1 S)))) 99 71 (((g_X12_tells (Int32.ofInt 98) (Int32.ofInt 20) (g_X12_gustStands x1 S)) 99 71) + (f_X12_tells (Int32.ofInt 98) (Int32.ofInt 20) (g_X12_gustStands x1 S)))) hD
        · have hD := hD.2 h3
          show u_P L xs m d m_X12_breaks 17 [(0, .ref 100), (1, .int x1)] [] S R _
          refine u_st rfl (fun _ => rfl) ?_
          refine u_st rfl (fun _ => rfl) ?_
          refine u_st rfl (fun _ => rfl) ?_
          refine u_lc (b := [(0, .ref 100), (1, .int (x1 + (Int32.ofInt 1)))]) (show ([1, 0] : List Nat).Nodup by decide) (show ([0, 1] : List Nat).Nodup by decide) (fun i => match i with | 0 => rfl | 1 => rfl | _ + 2 => rfl) ?_
          exact (ih m hm).1 d (x1 + (Int32.ofInt 1)) S hD
    · intro d j2 x1 S hD
      have hD := k2 x1 S hD
      unfold D_X12_breaks_2 at hD
      show u_P L xs n d m_X12_breaks 2 [(0, .ref 100), (1, .int x1), (2, .int j2)] [] S R _
      refine u_st1 rfl (fun _ => rfl) (fun m hm => ?_)
      refine u_st rfl (fun _ => rfl) ?_
      show u_P L xs m d m_X12_breaks 5 [(0, .ref 100), (1, .int x1), (2, .int j2)] [.int (Int32.ofInt 12), .int x1] S R _
      refine u_ic_ge rfl (fun h1 => ?_) (fun h1 => ?_)
      · have hD := hD.1 h1
        show u_P L xs m d m_X12_breaks 60 [(0, .ref 100), (1, .int x1), (2, .int j2)] [] S R _
        exact u_ret rfl rfl ⟨rfl, rfl, hD⟩
      · have hD := hD.2 h1
        show u_P L xs m d m_X12_breaks 8 [(0, .ref 100), (1, .int x1), (2, .int j2)] [] S R _
        refine u_st rfl (fun _ => rfl) ?_
        show u_P L xs m d m_X12_breaks 9 [(0, .ref 100), (1, .int x1), (2, .int j2)] [.ref 100] S R _
        refine u_getr rfl v_tyM rfl ?_
        refine u_st rfl (fun _ => rfl) ?_
        show u_P L xs m d m_X12_breaks 13 [(0, .ref 100), (1, .int x1), (2, .int j2)] [.int x1, .ref 117] S R _
        refine u_baldE (v := S 116 x1.toInt.toNat) rfl rfl (by decide) rfl (fun b21 b22 => ?_)
        have hD := hD b21 b22
        show u_P L xs m d m_X12_breaks 14 [(0, .ref 100), (1, .int x1), (2, .int j2)] [.int (S 116 x1.toInt.toNat)] S R _
        refine u_if_ne rfl (fun h3 => ?_) (fun h3 => ?_)
        · have hD := hD.1 h3
          show u_P L xs m d m_X12_breaks 20 [(0, .ref 100), (1, .int x1), (2, .int j2)] [] S R _
          refine u_st rfl (fun _ => rfl) ?_
          refine u_st rfl (fun _ => rfl) ?_
          show u_P L xs m d m_X12_breaks 22 [(0, .ref 100), (1, .int x1), (2, .int j2)] [.int x1, .ref 100] S R _
          refine u_cv (rest := []) rfl (by decide) mt_X12_gustStands v_tyM rfl rfl rfl (Nat.le_of_ble_eq_true rfl) (Nat.le_of_ble_eq_true rfl) (Nat.le_of_ble_eq_true rfl) (fun d' => c_X12_gustStands L xs m d' x1 S R) ?_
          rintro _ _ _ ⟨rfl, rfl, rfl⟩
          refine u_st rfl (fun _ => rfl) ?_
          refine u_st rfl (fun _ => rfl) ?_
          refine u_st rfl (fun _ => rfl) ?_
          show u_P L xs m d m_X12_breaks 30 [(0, .ref 100), (1, .int x1), (2, .int j2)] [.int (Int32.ofInt 20), .int (Int32.ofInt 98), .ref 100] (g_X12_gustStands x1 S) R _
          refine u_cv (rest := []) rfl (by decide) mt_X12_tells v_tyM rfl rfl rfl (Nat.le_of_ble_eq_true rfl) (Nat.le_of_ble_eq_true rfl) (Nat.le_of_ble_eq_true rfl) (fun d' => c_X12_tells L xs m d' (Int32.ofInt 98) (Int32.ofInt 20) (g_X12_gustStands x1 S) R) ?_
          rintro _ _ _ ⟨_, rfl, rfl, rfl, rfl⟩
          refine u_st rfl (fun _ => rfl) ?_
          refine u_st rfl (fun _ => rfl) ?_
          refine u_st rfl (fun _ => rfl) ?_
          show u_P L xs m d m_X12_breaks 36 [(2, .int (f_X12_tells (Int32.ofInt 98) (Int32.ofInt 20) (g_X12_gustStands x1 S))), (0, .ref 100), (1, .int x1)] [.ref 100, .ref 100] (g_X12_tells (Int32.ofInt 98) (Int32.ofInt 20) (g_X12_gustStands x1 S)) R _
          refine u_getE (v := (g_X12_tells (Int32.ofInt 98) (Int32.ofInt 20) (g_X12_gustStands x1 S)) 99 61) rfl v_tyM rfl rfl ?_
          refine u_st rfl (fun _ => rfl) ?_
          refine u_st rfl (fun _ => rfl) ?_
          show u_P L xs m d m_X12_breaks 41 [(2, .int (f_X12_tells (Int32.ofInt 98) (Int32.ofInt 20) (g_X12_gustStands x1 S))), (0, .ref 100), (1, .int x1)] [.int (((g_X12_tells (Int32.ofInt 98) (Int32.ofInt 20) (g_X12_gustStands x1 S)) 99 61) + (f_X12_tells (Int32.ofInt 98) (Int32.ofInt 20) (g_X12_gustStands x1 S))), .ref 100] (g_X12_tells (Int32.ofInt 98) (Int32.ofInt 20) (g_X12_gustStands x1 S)) R _
          refine u_put rfl v_tyM rfl ?_
          refine u_st rfl (fun _ => rfl) ?_
          refine u_st rfl (fun _ => rfl) ?_
          show u_P L xs m d m_X12_breaks 46 [(2, .int (f_X12_tells (Int32.ofInt 98) (Int32.ofInt 20) (g_X12_gustStands x1 S))), (0, .ref 100), (1, .int x1)] [.ref 100, .ref 100] (z_s (g_X12_tells (Int32.ofInt 98) (Int32.ofInt 20) (g_X12_gustStands x1 S)) 99 61 (((g_X12_tells (Int32.ofInt 98) (Int32.ofInt 20) (g_X12_gustStands x1 S)) 99 61) + (f_X12_tells (Int32.ofInt 98) (Int32.ofInt 20) (g_X12_gustStands x1 S)))) R _
          refine u_getE (v := (g_X12_tells (Int32.ofInt 98) (Int32.ofInt 20) (g_X12_gustStands x1 S)) 99 71) rfl v_tyM rfl (z_sn (fun h => absurd h.2 (by decide))) ?_
          refine u_st rfl (fun _ => rfl) ?_
          refine u_st rfl (fun _ => rfl) ?_
          show u_P L xs m d m_X12_breaks 51 [(2, .int (f_X12_tells (Int32.ofInt 98) (Int32.ofInt 20) (g_X12_gustStands x1 S))), (0, .ref 100), (1, .int x1)] [.int (((g_X12_tells (Int32.ofInt 98) (Int32.ofInt 20) (g_X12_gustStands x1 S)) 99 71) + (f_X12_tells (Int32.ofInt 98) (Int32.ofInt 20) (g_X12_gustStands x1 S))), .ref 100] (z_s (g_X12_tells (Int32.ofInt 98) (Int32.ofInt 20) (g_X12_gustStands x1 S)) 99 61 (((g_X12_tells (Int32.ofInt 98) (Int32.ofInt 20) (g_X12_gustStands x1 S)) 99 61) + (f_X12_tells (Int32.ofInt 98) (Int32.ofInt 20) (g_X12_gustStands x1 S)))) R _
          refine u_put rfl v_tyM rfl ?_
          refine u_st rfl (fun _ => rfl) ?_
          refine u_st rfl (fun _ => rfl) ?_
          refine u_lc (b := [(0, .ref 100), (1, .int (x1 + (Int32.ofInt 1))), (2, .int (f_X12_tells (Int32.ofInt 98) (Int32.ofInt 20) (g_X12_gustStands x1 S)))]) (show ([1, 2, 0] : List Nat).Nodup by decide) (show ([0, 1, 2] : List Nat).Nodup by decide) (fun i => match i with | 0 => rfl | 1 => rfl | 2 => rfl | _ + 3 => rfl) ?_
          exact (ih m hm).2 d (f_X12_tells (Int32.ofInt 98) (Int32.ofInt 20) (g_X12_gustStands x1 S)) (x1 + (Int32.ofInt 1)) (z_s (z_s (g_X12_tells (Int32.ofInt 98) (Int32.ofInt 20) (g_X12_gustStands x1 S)) 99 61 (((g_X12_tells (Int32.ofInt 98) (Int32.ofInt 20) (g_X12_gustStands x1 S)) 99 61) + (f_X12_tells (Int32.ofInt 98) (Int32.ofInt 20) (g_X12_gustStands x1 S)))) 99 71 (((g_X12_tells (Int32.ofInt 98) (Int32.ofInt 20) (g_X12_gustStands x1 S)) 99 71) + (f_X12_tells (Int32.ofInt 98) (Int32.ofInt 20) (g_X12_gustStands x1 S)))) hD
        · have hD := hD.2 h3
          show u_P L xs m d m_X12_breaks 17 [(0, .ref 100), (1, .int x1), (2, .int j2)] [] S R _
          refine u_st rfl (fun _ => rfl) ?_
          refine u_st rfl (fun _ => rfl) ?_
          refine u_st rfl (fun _ => rfl) ?_
          refine u_lc (b := [(0, .ref 100), (1, .int (x1 + (Int32.ofInt 1))), (2, .int j2)]) (show ([1, 0, 2] : List Nat).Nodup by decide) (show ([0, 1, 2] : List Nat).Nodup by decide) (fun i => match i with | 0 => rfl | 1 => rfl | 2 => rfl | _ + 3 => rfl) ?_
          exact (ih m hm).2 d j2 (x1 + (Int32.ofInt 1)) S hD
set_option maxRecDepth 4000 in
theorem w_X12_breaks (L : Nat) (xs : Nat → Int32) {R : v_Rf}  (H2 : Int32 → v_Sf → Prop) (K : v_Sf → Prop) (k2 : ∀ (x1 : Int32) (S : v_Sf), H2 x1 S → D_X12_breaks_2 H2 K x1 S) (n d : Nat) (S : v_Sf) (hD : D_X12_breaks H2 K S) : u_P L xs n d m_X12_breaks 0 (lv_args 0 [.ref 100]) [] S R (z_V R K) := by
  unfold D_X12_breaks at hD
  show u_P L xs n d m_X12_breaks 0 [(0, .ref 100)] [] S R _
  refine u_st rfl (fun _ => rfl) ?_
  refine u_st rfl (fun _ => rfl) ?_
  refine u_lc (b := [(0, .ref 100), (1, .int (Int32.ofInt 0))]) (show ([1, 0] : List Nat).Nodup by decide) (show ([0, 1] : List Nat).Nodup by decide) (fun i => match i with | 0 => rfl | 1 => rfl | _ + 2 => rfl) ?_
  exact (hd_X12_breaks L xs H2 K k2 n).1 d (Int32.ofInt 0) S hD
noncomputable def r_X12_breaks_2  : Nat → Nat → v_Sf → v_Sf
  | 0, k2, S => S
  | r + 1, k2, S => (if ¬ (S 116 (z_i k2).toInt.toNat) = 0 then r_X12_breaks_2 r (k2 + 1) (z_s (z_s (g_X12_tells (Int32.ofInt 98) (Int32.ofInt 20) (g_X12_gustStands (z_i k2) S)) 99 61 (((g_X12_tells (Int32.ofInt 98) (Int32.ofInt 20) (g_X12_gustStands (z_i k2) S)) 99 61) + (f_X12_tells (Int32.ofInt 98) (Int32.ofInt 20) (g_X12_gustStands (z_i k2) S)))) 99 71 (((g_X12_tells (Int32.ofInt 98) (Int32.ofInt 20) (g_X12_gustStands (z_i k2) S)) 99 71) + (f_X12_tells (Int32.ofInt 98) (Int32.ofInt 20) (g_X12_gustStands (z_i k2) S)))) else r_X12_breaks_2 r (k2 + 1) S)
noncomputable def F_X12_breaks  (S : v_Sf) : v_Sf := r_X12_breaks_2 (12 - 0) 0 S
noncomputable def g_X12_breaks  (S : v_Sf) : v_Sf := F_X12_breaks  S
theorem c_X12_breaks (L : Nat) (xs : Nat → Int32) (n d : Nat)  (S : v_Sf) (R : v_Rf) : u_P L xs n d m_X12_breaks 0 (lv_args 0 [.ref 100]) [] S R (z_V R (fun S1 => g_X12_breaks  S = S1)) := by
  refine w_X12_breaks L xs  (fun y1 T => ∃ (k2 : Nat), k2 ≤ 12 ∧ z_i k2 = y1 ∧ r_X12_breaks_2 (12 - k2) k2 T = F_X12_breaks  S) (fun S1 => g_X12_breaks  S = S1) ?_ n d S ?_
  · rintro _ S1 ⟨k2, hkk, rfl, e⟩
    unfold D_X12_breaks_2
    rcases Nat.lt_or_ge k2 (12) with hk | hk
    · rw [show 12 - k2 = (12 - (k2 + 1)) + 1 by omega, r_X12_breaks_2] at e
      refine ⟨fun q1 => ?_, fun q1 => ?_⟩
      · exact absurd hk (Nat.not_lt.mpr (z_leB2 (B := 12) q1 (by decide) (by omega)))
      · intro _ _
        refine ⟨fun q2 => ?_, fun q2 => ?_⟩
        · rw [if_pos q2] at e
          exact ⟨(k2 + 1), by omega, (z_i1 k2).symm, e⟩
        · rw [if_neg q2] at e
          exact ⟨(k2 + 1), by omega, (z_i1 k2).symm, e⟩
    · rw [show 12 - k2 = 0 by omega, r_X12_breaks_2] at e
      refine ⟨fun q3 => ?_, fun q3 => ?_⟩
      · exact e.symm
      · exact absurd hk (Nat.not_le.mpr (z_ltB2 (B := 12) q3 (by decide) (by omega)))
  · unfold D_X12_breaks
    have e : r_X12_breaks_2 (12 - 0) 0 S = F_X12_breaks  S := by rw [F_X12_breaks]
    exact ⟨0, by omega, rfl, e⟩
noncomputable abbrev m_X12_whistle : g_M := (g_cn 12, yX12_whistle, cX12_whistle, 3, none, g_look2 ttX12_whistle)
set_option maxRecDepth 20000 in
theorem mt_X12_whistle : g_mt 234 = some m_X12_whistle := rfl
noncomputable def D_X12_whistle_2  (H2 : Int32 → v_Sf → Prop) (H12 : Int32 → Int32 → v_Sf → Prop) (K : v_Sf → Prop) (x1 : Int32) (S : v_Sf) : Prop := (((Int32.ofInt 12) ≤ x1 → K S) ∧ (¬ ((Int32.ofInt 12) ≤ x1) → H12 x1 (x1 + (Int32.ofInt 1)) S))
noncomputable def D_X12_whistle_12  (H2 : Int32 → v_Sf → Prop) (H12 : Int32 → Int32 → v_Sf → Prop) (K : v_Sf → Prop) (x1 : Int32) (x2 : Int32) (S : v_Sf) : Prop := (((Int32.ofInt 12) ≤ x2 → H2 (x1 + (Int32.ofInt 1)) S) ∧ (¬ ((Int32.ofInt 12) ≤ x2) → (0 ≤ x1.toInt → x1.toInt < 12 → (((S 116 x1.toInt.toNat) = 0 → H12 x1 (x2 + (Int32.ofInt 1)) S) ∧ (¬ ((S 116 x1.toInt.toNat) = 0) → (0 ≤ x2.toInt → x2.toInt < 12 → (((S 116 x2.toInt.toNat) = 0 → H12 x1 (x2 + (Int32.ofInt 1)) S) ∧ (¬ ((S 116 x2.toInt.toNat) = 0) → (0 ≤ x1.toInt → x1.toInt < 12 → (0 ≤ x2.toInt → x2.toInt < 12 → (((¬ (S 120 x1.toInt.toNat) = (S 120 x2.toInt.toNat)) → H12 x1 (x2 + (Int32.ofInt 1)) S) ∧ (¬ (¬ (S 120 x1.toInt.toNat) = (S 120 x2.toInt.toNat)) → (((¬ (f_X12_doQuarrel x1 x2 S) = 0) → (0 ≤ x1.toInt → x1.toInt < 12 → (0 ≤ x1.toInt → x1.toInt < 12 → (0 ≤ x2.toInt → x2.toInt < 12 → (0 ≤ x2.toInt → x2.toInt < 12 → H12 x1 (x2 + (Int32.ofInt 1)) (z_s (z_s (z_s (z_s (g_X12_doQuarrel x1 x2 S) 99 62 (((g_X12_doQuarrel x1 x2 S) 99 62) + (Int32.ofInt 1))) 99 72 (((g_X12_doQuarrel x1 x2 S) 99 72) + (Int32.ofInt 1))) 119 x1.toInt.toNat (f_X12_held (((g_X12_doQuarrel x1 x2 S) 119 x1.toInt.toNat) + (Int32.ofInt 1)) (Int32.ofInt 9))) 119 x2.toInt.toNat (f_X12_held (((z_s (z_s (z_s (g_X12_doQuarrel x1 x2 S) 99 62 (((g_X12_doQuarrel x1 x2 S) 99 62) + (Int32.ofInt 1))) 99 72 (((g_X12_doQuarrel x1 x2 S) 99 72) + (Int32.ofInt 1))) 119 x1.toInt.toNat (f_X12_held (((g_X12_doQuarrel x1 x2 S) 119 x1.toInt.toNat) + (Int32.ofInt 1)) (Int32.ofInt 9))) 119 x2.toInt.toNat) + (Int32.ofInt 1)) (Int32.ofInt 9)))))))) ∧ (¬ (¬ (f_X12_doQuarrel x1 x2 S) = 0) → H12 x1 (x2 + (Int32.ofInt 1)) (g_X12_doQuarrel x1 x2 S)))))))))))))))
noncomputable def D_X12_whistle  (H2 : Int32 → v_Sf → Prop) (H12 : Int32 → Int32 → v_Sf → Prop) (K : v_Sf → Prop) (S : v_Sf) : Prop := H2 (Int32.ofInt 0) S
set_option maxRecDepth 4000 in
theorem hd_X12_whistle (L : Nat) (xs : Nat → Int32) {R : v_Rf}  (H2 : Int32 → v_Sf → Prop) (H12 : Int32 → Int32 → v_Sf → Prop) (K : v_Sf → Prop) (k2 : ∀ (x1 : Int32) (S : v_Sf), H2 x1 S → D_X12_whistle_2 H2 H12 K x1 S) (k12 : ∀ (x1 : Int32) (x2 : Int32) (S : v_Sf), H12 x1 x2 S → D_X12_whistle_12 H2 H12 K x1 x2 S) : ∀ n, (∀ (d : Nat) (x1 : Int32) (S : v_Sf), H2 x1 S → u_P L xs n d m_X12_whistle 2 [(0, .ref 100), (1, .int x1)] [] S R (z_V R K)) ∧ (∀ (d : Nat) (j2 : Int32) (x1 : Int32) (S : v_Sf), H2 x1 S → u_P L xs n d m_X12_whistle 2 [(0, .ref 100), (1, .int x1), (2, .int j2)] [] S R (z_V R K)) ∧ (∀ (d : Nat) (x1 : Int32) (x2 : Int32) (S : v_Sf), H12 x1 x2 S → u_P L xs n d m_X12_whistle 12 [(0, .ref 100), (1, .int x1), (2, .int x2)] [] S R (z_V R K)) := by
  intro n
  induction n using Nat.strongRecOn with
  | ind n ih =>
    refine ⟨?_, ?_, ?_⟩
    · intro d x1 S hD
      have hD := k2 x1 S hD
      unfold D_X12_whistle_2 at hD
      show u_P L xs n d m_X12_whistle 2 [(0, .ref 100), (1, .int x1)] [] S R _
      refine u_st1 rfl (fun _ => rfl) (fun m hm => ?_)
      refine u_st rfl (fun _ => rfl) ?_
      show u_P L xs m d m_X12_whistle 5 [(0, .ref 100), (1, .int x1)] [.int (Int32.ofInt 12), .int x1] S R _
      refine u_ic_ge rfl (fun h1 => ?_) (fun h1 => ?_)
      · have hD := hD.1 h1
        show u_P L xs m d m_X12_whistle 133 [(0, .ref 100), (1, .int x1)] [] S R _
        exact u_ret rfl rfl ⟨rfl, rfl, hD⟩
      · have hD := hD.2 h1
        show u_P L xs m d m_X12_whistle 8 [(0, .ref 100), (1, .int x1)] [] S R _
        refine u_st rfl (fun _ => rfl) ?_
        refine u_st rfl (fun _ => rfl) ?_
        refine u_st rfl (fun _ => rfl) ?_
        refine u_st rfl (fun _ => rfl) ?_
        refine u_lc (b := [(0, .ref 100), (1, .int x1), (2, .int (x1 + (Int32.ofInt 1)))]) (show ([2, 0, 1] : List Nat).Nodup by decide) (show ([0, 1, 2] : List Nat).Nodup by decide) (fun i => match i with | 0 => rfl | 1 => rfl | 2 => rfl | _ + 3 => rfl) ?_
        exact (ih m hm).2.2 d x1 (x1 + (Int32.ofInt 1)) S hD
    · intro d j2 x1 S hD
      have hD := k2 x1 S hD
      unfold D_X12_whistle_2 at hD
      show u_P L xs n d m_X12_whistle 2 [(0, .ref 100), (1, .int x1), (2, .int j2)] [] S R _
      refine u_st1 rfl (fun _ => rfl) (fun m hm => ?_)
      refine u_st rfl (fun _ => rfl) ?_
      show u_P L xs m d m_X12_whistle 5 [(0, .ref 100), (1, .int x1), (2, .int j2)] [.int (Int32.ofInt 12), .int x1] S R _
      refine u_ic_ge rfl (fun h1 => ?_) (fun h1 => ?_)
      · have hD := hD.1 h1
        show u_P L xs m d m_X12_whistle 133 [(0, .ref 100), (1, .int x1), (2, .int j2)] [] S R _
        exact u_ret rfl rfl ⟨rfl, rfl, hD⟩
      · have hD := hD.2 h1
        show u_P L xs m d m_X12_whistle 8 [(0, .ref 100), (1, .int x1), (2, .int j2)] [] S R _
        refine u_st rfl (fun _ => rfl) ?_
        refine u_st rfl (fun _ => rfl) ?_
        refine u_st rfl (fun _ => rfl) ?_
        refine u_st rfl (fun _ => rfl) ?_
        refine u_lc (b := [(0, .ref 100), (1, .int x1), (2, .int (x1 + (Int32.ofInt 1)))]) (show ([2, 0, 1] : List Nat).Nodup by decide) (show ([0, 1, 2] : List Nat).Nodup by decide) (fun i => match i with | 0 => rfl | 1 => rfl | 2 => rfl | _ + 3 => rfl) ?_
        exact (ih m hm).2.2 d x1 (x1 + (Int32.ofInt 1)) S hD
    · intro d x1 x2 S hD
      have hD := k12 x1 x2 S hD
      unfold D_X12_whistle_12 at hD
      show u_P L xs n d m_X12_whistle 12 [(0, .ref 100), (1, .int x1), (2, .int x2)] [] S R _
      refine u_st1 rfl (fun _ => rfl) (fun m hm => ?_)
      refine u_st rfl (fun _ => rfl) ?_
      show u_P L xs m d m_X12_whistle 15 [(0, .ref 100), (1, .int x1), (2, .int x2)] [.int (Int32.ofInt 12), .int x2] S R _
      refine u_ic_ge rfl (fun h1 => ?_) (fun h1 => ?_)
      · have hD := hD.1 h1
        show u_P L xs m d m_X12_whistle 127 [(0, .ref 100), (1, .int x1), (2, .int x2)] [] S R _
        refine u_st rfl (fun _ => rfl) ?_
        refine u_st rfl (fun _ => rfl) ?_
        refine u_lc (b := [(0, .ref 100), (1, .int (x1 + (Int32.ofInt 1))), (2, .int x2)]) (show ([1, 0, 2] : List Nat).Nodup by decide) (show ([0, 1, 2] : List Nat).Nodup by decide) (fun i => match i with | 0 => rfl | 1 => rfl | 2 => rfl | _ + 3 => rfl) ?_
        exact (ih m hm).2.1 d x2 (x1 + (Int32.ofInt 1)) S hD
      · have hD := hD.2 h1
        show u_P L xs m d m_X12_whistle 18 [(0, .ref 100), (1, .int x1), (2, .int x2)] [] S R _
        refine u_st rfl (fun _ => rfl) ?_
        show u_P L xs m d m_X12_whistle 19 [(0, .ref 100), (1, .int x1), (2, .int x2)] [.ref 100] S R _
        refine u_getr rfl v_tyM rfl ?_
        refine u_st rfl (fun _ => rfl) ?_
        show u_P L xs m d m_X12_whistle 23 [(0, .ref 100), (1, .int x1), (2, .int x2)] [.int x1, .ref 117] S R _
        refine u_baldE (v := S 116 x1.toInt.toNat) rfl rfl (by decide) rfl (fun b21 b22 => ?_)
        have hD := hD b21 b22
        show u_P L xs m d m_X12_whistle 24 [(0, .ref 100), (1, .int x1), (2, .int x2)] [.int (S 116 x1.toInt.toNat)] S R _
        refine u_if_eq rfl (fun h3 => ?_) (fun h3 => ?_)
        · have hD := hD.1 h3
          show u_P L xs m d m_X12_whistle 121 [(0, .ref 100), (1, .int x1), (2, .int x2)] [] S R _
          refine u_st rfl (fun _ => rfl) ?_
          refine u_st rfl (fun _ => rfl) ?_
          refine u_lc (b := [(0, .ref 100), (1, .int x1), (2, .int (x2 + (Int32.ofInt 1)))]) (show ([2, 0, 1] : List Nat).Nodup by decide) (show ([0, 1, 2] : List Nat).Nodup by decide) (fun i => match i with | 0 => rfl | 1 => rfl | 2 => rfl | _ + 3 => rfl) ?_
          exact (ih m hm).2.2 d x1 (x2 + (Int32.ofInt 1)) S hD
        · have hD := hD.2 h3
          show u_P L xs m d m_X12_whistle 27 [(0, .ref 100), (1, .int x1), (2, .int x2)] [] S R _
          refine u_st rfl (fun _ => rfl) ?_
          show u_P L xs m d m_X12_whistle 28 [(0, .ref 100), (1, .int x1), (2, .int x2)] [.ref 100] S R _
          refine u_getr rfl v_tyM rfl ?_
          refine u_st rfl (fun _ => rfl) ?_
          show u_P L xs m d m_X12_whistle 32 [(0, .ref 100), (1, .int x1), (2, .int x2)] [.int x2, .ref 117] S R _
          refine u_baldE (v := S 116 x2.toInt.toNat) rfl rfl (by decide) rfl (fun b41 b42 => ?_)
          have hD := hD b41 b42
          show u_P L xs m d m_X12_whistle 33 [(0, .ref 100), (1, .int x1), (2, .int x2)] [.int (S 116 x2.toInt.toNat)] S R _
          refine u_if_eq rfl (fun h5 => ?_) (fun h5 => ?_)
          · have hD := hD.1 h5
            show u_P L xs m d m_X12_whistle 121 [(0, .ref 100), (1, .int x1), (2, .int x2)] [] S R _
            refine u_st rfl (fun _ => rfl) ?_
            refine u_st rfl (fun _ => rfl) ?_
            refine u_lc (b := [(0, .ref 100), (1, .int x1), (2, .int (x2 + (Int32.ofInt 1)))]) (show ([2, 0, 1] : List Nat).Nodup by decide) (show ([0, 1, 2] : List Nat).Nodup by decide) (fun i => match i with | 0 => rfl | 1 => rfl | 2 => rfl | _ + 3 => rfl) ?_
            exact (ih m hm).2.2 d x1 (x2 + (Int32.ofInt 1)) S hD
          · have hD := hD.2 h5
            show u_P L xs m d m_X12_whistle 36 [(0, .ref 100), (1, .int x1), (2, .int x2)] [] S R _
            refine u_st rfl (fun _ => rfl) ?_
            show u_P L xs m d m_X12_whistle 37 [(0, .ref 100), (1, .int x1), (2, .int x2)] [.ref 100] S R _
            refine u_getr rfl v_tyM rfl ?_
            refine u_st rfl (fun _ => rfl) ?_
            show u_P L xs m d m_X12_whistle 41 [(0, .ref 100), (1, .int x1), (2, .int x2)] [.int x1, .ref 121] S R _
            refine u_ialdE (v := S 120 x1.toInt.toNat) rfl rfl rfl (fun b61 b62 => ?_)
            have hD := hD b61 b62
            show u_P L xs m d m_X12_whistle 42 [(0, .ref 100), (1, .int x1), (2, .int x2)] [.int (S 120 x1.toInt.toNat)] S R _
            refine u_st rfl (fun _ => rfl) ?_
            show u_P L xs m d m_X12_whistle 43 [(0, .ref 100), (1, .int x1), (2, .int x2)] [.ref 100, .int (S 120 x1.toInt.toNat)] S R _
            refine u_getr rfl v_tyM rfl ?_
            refine u_st rfl (fun _ => rfl) ?_
            show u_P L xs m d m_X12_whistle 47 [(0, .ref 100), (1, .int x1), (2, .int x2)] [.int x2, .ref 121, .int (S 120 x1.toInt.toNat)] S R _
            refine u_ialdE (v := S 120 x2.toInt.toNat) rfl rfl rfl (fun b71 b72 => ?_)
            have hD := hD b71 b72
            show u_P L xs m d m_X12_whistle 48 [(0, .ref 100), (1, .int x1), (2, .int x2)] [.int (S 120 x2.toInt.toNat), .int (S 120 x1.toInt.toNat)] S R _
            refine u_ic_ne rfl (fun h8 => ?_) (fun h8 => ?_)
            · have hD := hD.1 h8
              show u_P L xs m d m_X12_whistle 121 [(0, .ref 100), (1, .int x1), (2, .int x2)] [] S R _
              refine u_st rfl (fun _ => rfl) ?_
              refine u_st rfl (fun _ => rfl) ?_
              refine u_lc (b := [(0, .ref 100), (1, .int x1), (2, .int (x2 + (Int32.ofInt 1)))]) (show ([2, 0, 1] : List Nat).Nodup by decide) (show ([0, 1, 2] : List Nat).Nodup by decide) (fun i => match i with | 0 => rfl | 1 => rfl | 2 => rfl | _ + 3 => rfl) ?_
              exact (ih m hm).2.2 d x1 (x2 + (Int32.ofInt 1)) S hD
            · have hD := hD.2 h8
              show u_P L xs m d m_X12_whistle 51 [(0, .ref 100), (1, .int x1), (2, .int x2)] [] S R _
              refine u_st rfl (fun _ => rfl) ?_
              refine u_st rfl (fun _ => rfl) ?_
              refine u_st rfl (fun _ => rfl) ?_
              show u_P L xs m d m_X12_whistle 54 [(0, .ref 100), (1, .int x1), (2, .int x2)] [.int x2, .int x1, .ref 100] S R _
              refine u_cv (rest := []) rfl (by decide) mt_X12_doQuarrel v_tyM rfl rfl rfl (Nat.le_of_ble_eq_true rfl) (Nat.le_of_ble_eq_true rfl) (Nat.le_of_ble_eq_true rfl) (fun d' => c_X12_doQuarrel L xs m d' x1 x2 S R) ?_
              rintro _ _ _ ⟨_, rfl, rfl, rfl, rfl⟩
              show u_P L xs m d m_X12_whistle 57 [(0, .ref 100), (1, .int x1), (2, .int x2)] [.int (f_X12_doQuarrel x1 x2 S)] (g_X12_doQuarrel x1 x2 S) R _
              refine u_if_ne rfl (fun h9 => ?_) (fun h9 => ?_)
              · have hD := hD.1 h9
                show u_P L xs m d m_X12_whistle 63 [(0, .ref 100), (1, .int x1), (2, .int x2)] [] (g_X12_doQuarrel x1 x2 S) R _
                refine u_st rfl (fun _ => rfl) ?_
                refine u_st rfl (fun _ => rfl) ?_
                show u_P L xs m d m_X12_whistle 65 [(0, .ref 100), (1, .int x1), (2, .int x2)] [.ref 100, .ref 100] (g_X12_doQuarrel x1 x2 S) R _
                refine u_getE (v := (g_X12_doQuarrel x1 x2 S) 99 62) rfl v_tyM rfl rfl ?_
                refine u_st rfl (fun _ => rfl) ?_
                refine u_st rfl (fun _ => rfl) ?_
                show u_P L xs m d m_X12_whistle 70 [(0, .ref 100), (1, .int x1), (2, .int x2)] [.int (((g_X12_doQuarrel x1 x2 S) 99 62) + (Int32.ofInt 1)), .ref 100] (g_X12_doQuarrel x1 x2 S) R _
                refine u_put rfl v_tyM rfl ?_
                refine u_st rfl (fun _ => rfl) ?_
                refine u_st rfl (fun _ => rfl) ?_
                show u_P L xs m d m_X12_whistle 75 [(0, .ref 100), (1, .int x1), (2, .int x2)] [.ref 100, .ref 100] (z_s (g_X12_doQuarrel x1 x2 S) 99 62 (((g_X12_doQuarrel x1 x2 S) 99 62) + (Int32.ofInt 1))) R _
                refine u_getE (v := (g_X12_doQuarrel x1 x2 S) 99 72) rfl v_tyM rfl (z_sn (fun h => absurd h.2 (by decide))) ?_
                refine u_st rfl (fun _ => rfl) ?_
                refine u_st rfl (fun _ => rfl) ?_
                show u_P L xs m d m_X12_whistle 80 [(0, .ref 100), (1, .int x1), (2, .int x2)] [.int (((g_X12_doQuarrel x1 x2 S) 99 72) + (Int32.ofInt 1)), .ref 100] (z_s (g_X12_doQuarrel x1 x2 S) 99 62 (((g_X12_doQuarrel x1 x2 S) 99 62) + (Int32.ofInt 1))) R _
                refine u_put rfl v_tyM rfl ?_
                refine u_st rfl (fun _ => rfl) ?_
                show u_P L xs m d m_X12_whistle 84 [(0, .ref 100), (1, .int x1), (2, .int x2)] [.ref 100] (z_s (z_s (g_X12_doQuarrel x1 x2 S) 99 62 (((g_X12_doQuarrel x1 x2 S) 99 62) + (Int32.ofInt 1))) 99 72 (((g_X12_doQuarrel x1 x2 S) 99 72) + (Int32.ofInt 1))) R _
                refine u_getr rfl v_tyM rfl ?_
                refine u_st rfl (fun _ => rfl) ?_
                refine u_st rfl (fun _ => rfl) ?_
                show u_P L xs m d m_X12_whistle 89 [(0, .ref 100), (1, .int x1), (2, .int x2)] [.ref 100, .int x1, .ref 120] (z_s (z_s (g_X12_doQuarrel x1 x2 S) 99 62 (((g_X12_doQuarrel x1 x2 S) 99 62) + (Int32.ofInt 1))) 99 72 (((g_X12_doQuarrel x1 x2 S) 99 72) + (Int32.ofInt 1))) R _
                refine u_getr rfl v_tyM rfl ?_
                refine u_st rfl (fun _ => rfl) ?_
                show u_P L xs m d m_X12_whistle 93 [(0, .ref 100), (1, .int x1), (2, .int x2)] [.int x1, .ref 120, .int x1, .ref 120] (z_s (z_s (g_X12_doQuarrel x1 x2 S) 99 62 (((g_X12_doQuarrel x1 x2 S) 99 62) + (Int32.ofInt 1))) 99 72 (((g_X12_doQuarrel x1 x2 S) 99 72) + (Int32.ofInt 1))) R _
                refine u_ialdE (v := (g_X12_doQuarrel x1 x2 S) 119 x1.toInt.toNat) rfl rfl ((z_sn (fun h => absurd h.1 (by decide))).trans (z_sn (fun h => absurd h.1 (by decide)))) (fun b101 b102 => ?_)
                have hD := hD b101 b102
                show u_P L xs m d m_X12_whistle 94 [(0, .ref 100), (1, .int x1), (2, .int x2)] [.int ((g_X12_doQuarrel x1 x2 S) 119 x1.toInt.toNat), .int x1, .ref 120] (z_s (z_s (g_X12_doQuarrel x1 x2 S) 99 62 (((g_X12_doQuarrel x1 x2 S) 99 62) + (Int32.ofInt 1))) 99 72 (((g_X12_doQuarrel x1 x2 S) 99 72) + (Int32.ofInt 1))) R _
                refine u_st rfl (fun _ => rfl) ?_
                refine u_st rfl (fun _ => rfl) ?_
                refine u_st rfl (fun _ => rfl) ?_
                show u_P L xs m d m_X12_whistle 98 [(0, .ref 100), (1, .int x1), (2, .int x2)] [.int (Int32.ofInt 9), .int (((g_X12_doQuarrel x1 x2 S) 119 x1.toInt.toNat) + (Int32.ofInt 1)), .int x1, .ref 120] (z_s (z_s (g_X12_doQuarrel x1 x2 S) 99 62 (((g_X12_doQuarrel x1 x2 S) 99 62) + (Int32.ofInt 1))) 99 72 (((g_X12_doQuarrel x1 x2 S) 99 72) + (Int32.ofInt 1))) R _
                refine u_cs (ac := [.int (((g_X12_doQuarrel x1 x2 S) 119 x1.toInt.toNat) + (Int32.ofInt 1)), .int (Int32.ofInt 9)]) (rest := [.int x1, .ref 120]) rfl (by decide) mt_X12_held (fun _ => rfl) (Nat.le_of_ble_eq_true rfl) (Nat.le_of_ble_eq_true rfl) (fun d' => c_X12_held L xs m d' (((g_X12_doQuarrel x1 x2 S) 119 x1.toInt.toNat) + (Int32.ofInt 1)) (Int32.ofInt 9) (z_s (z_s (g_X12_doQuarrel x1 x2 S) 99 62 (((g_X12_doQuarrel x1 x2 S) 99 62) + (Int32.ofInt 1))) 99 72 (((g_X12_doQuarrel x1 x2 S) 99 72) + (Int32.ofInt 1))) R) ?_
                rintro _ _ _ ⟨_, rfl, rfl, rfl, rfl⟩
                show u_P L xs m d m_X12_whistle 101 [(0, .ref 100), (1, .int x1), (2, .int x2)] [.int (f_X12_held (((g_X12_doQuarrel x1 x2 S) 119 x1.toInt.toNat) + (Int32.ofInt 1)) (Int32.ofInt 9)), .int x1, .ref 120] (z_s (z_s (g_X12_doQuarrel x1 x2 S) 99 62 (((g_X12_doQuarrel x1 x2 S) 99 62) + (Int32.ofInt 1))) 99 72 (((g_X12_doQuarrel x1 x2 S) 99 72) + (Int32.ofInt 1))) R _
                refine u_iast rfl rfl (fun b111 b112 => ?_)
                have hD := hD b111 b112
                show u_P L xs m d m_X12_whistle 102 [(0, .ref 100), (1, .int x1), (2, .int x2)] [] (z_s (z_s (z_s (g_X12_doQuarrel x1 x2 S) 99 62 (((g_X12_doQuarrel x1 x2 S) 99 62) + (Int32.ofInt 1))) 99 72 (((g_X12_doQuarrel x1 x2 S) 99 72) + (Int32.ofInt 1))) 119 x1.toInt.toNat (f_X12_held (((g_X12_doQuarrel x1 x2 S) 119 x1.toInt.toNat) + (Int32.ofInt 1)) (Int32.ofInt 9))) R _
                refine u_st rfl (fun _ => rfl) ?_
                show u_P L xs m d m_X12_whistle 103 [(0, .ref 100), (1, .int x1), (2, .int x2)] [.ref 100] (z_s (z_s (z_s (g_X12_doQuarrel x1 x2 S) 99 62 (((g_X12_doQuarrel x1 x2 S) 99 62) + (Int32.ofInt 1))) 99 72 (((g_X12_doQuarrel x1 x2 S) 99 72) + (Int32.ofInt 1))) 119 x1.toInt.toNat (f_X12_held (((g_X12_doQuarrel x1 x2 S) 119 x1.toInt.toNat) + (Int32.ofInt 1)) (Int32.ofInt 9))) R _
                refine u_getr rfl v_tyM rfl ?_
                refine u_st rfl (fun _ => rfl) ?_
                refine u_st rfl (fun _ => rfl) ?_
                show u_P L xs m d m_X12_whistle 108 [(0, .ref 100), (1, .int x1), (2, .int x2)] [.ref 100, .int x2, .ref 120] (z_s (z_s (z_s (g_X12_doQuarrel x1 x2 S) 99 62 (((g_X12_doQuarrel x1 x2 S) 99 62) + (Int32.ofInt 1))) 99 72 (((g_X12_doQuarrel x1 x2 S) 99 72) + (Int32.ofInt 1))) 119 x1.toInt.toNat (f_X12_held (((g_X12_doQuarrel x1 x2 S) 119 x1.toInt.toNat) + (Int32.ofInt 1)) (Int32.ofInt 9))) R _
                refine u_getr rfl v_tyM rfl ?_
                refine u_st rfl (fun _ => rfl) ?_
                show u_P L xs m d m_X12_whistle 112 [(0, .ref 100), (1, .int x1), (2, .int x2)] [.int x2, .ref 120, .int x2, .ref 120] (z_s (z_s (z_s (g_X12_doQuarrel x1 x2 S) 99 62 (((g_X12_doQuarrel x1 x2 S) 99 62) + (Int32.ofInt 1))) 99 72 (((g_X12_doQuarrel x1 x2 S) 99 72) + (Int32.ofInt 1))) 119 x1.toInt.toNat (f_X12_held (((g_X12_doQuarrel x1 x2 S) 119 x1.toInt.toNat) + (Int32.ofInt 1)) (Int32.ofInt 9))) R _
                refine u_ialdE (v := (z_s (z_s (z_s (g_X12_doQuarrel x1 x2 S) 99 62 (((g_X12_doQuarrel x1 x2 S) 99 62) + (Int32.ofInt 1))) 99 72 (((g_X12_doQuarrel x1 x2 S) 99 72) + (Int32.ofInt 1))) 119 x1.toInt.toNat (f_X12_held (((g_X12_doQuarrel x1 x2 S) 119 x1.toInt.toNat) + (Int32.ofInt 1)) (Int32.ofInt 9))) 119 x2.toInt.toNat) rfl rfl rfl (fun b121 b122 => ?_)
                have hD := hD b121 b122
                show u_P L xs m d m_X12_whistle 113 [(0, .ref 100), (1, .int x1), (2, .int x2)] [.int ((z_s (z_s (z_s (g_X12_doQuarrel x1 x2 S) 99 62 (((g_X12_doQuarrel x1 x2 S) 99 62) + (Int32.ofInt 1))) 99 72 (((g_X12_doQuarrel x1 x2 S) 99 72) + (Int32.ofInt 1))) 119 x1.toInt.toNat (f_X12_held (((g_X12_doQuarrel x1 x2 S) 119 x1.toInt.toNat) + (Int32.ofInt 1)) (Int32.ofInt 9))) 119 x2.toInt.toNat), .int x2, .ref 120] (z_s (z_s (z_s (g_X12_doQuarrel x1 x2 S) 99 62 (((g_X12_doQuarrel x1 x2 S) 99 62) + (Int32.ofInt 1))) 99 72 (((g_X12_doQuarrel x1 x2 S) 99 72) + (Int32.ofInt 1))) 119 x1.toInt.toNat (f_X12_held (((g_X12_doQuarrel x1 x2 S) 119 x1.toInt.toNat) + (Int32.ofInt 1)) (Int32.ofInt 9))) R _
                refine u_st rfl (fun _ => rfl) ?_
                refine u_st rfl (fun _ => rfl) ?_
                refine u_st rfl (fun _ => rfl) ?_
                show u_P L xs m d m_X12_whistle 117 [(0, .ref 100), (1, .int x1), (2, .int x2)] [.int (Int32.ofInt 9), .int (((z_s (z_s (z_s (g_X12_doQuarrel x1 x2 S) 99 62 (((g_X12_doQuarrel x1 x2 S) 99 62) + (Int32.ofInt 1))) 99 72 (((g_X12_doQuarrel x1 x2 S) 99 72) + (Int32.ofInt 1))) 119 x1.toInt.toNat (f_X12_held (((g_X12_doQuarrel x1 x2 S) 119 x1.toInt.toNat) + (Int32.ofInt 1)) (Int32.ofInt 9))) 119 x2.toInt.toNat) + (Int32.ofInt 1)), .int x2, .ref 120] (z_s (z_s (z_s (g_X12_doQuarrel x1 x2 S) 99 62 (((g_X12_doQuarrel x1 x2 S) 99 62) + (Int32.ofInt 1))) 99 72 (((g_X12_doQuarrel x1 x2 S) 99 72) + (Int32.ofInt 1))) 119 x1.toInt.toNat (f_X12_held (((g_X12_doQuarrel x1 x2 S) 119 x1.toInt.toNat) + (Int32.ofInt 1)) (Int32.ofInt 9))) R _
                refine u_cs (ac := [.int (((z_s (z_s (z_s (g_X12_doQuarrel x1 x2 S) 99 62 (((g_X12_doQuarrel x1 x2 S) 99 62) + (Int32.ofInt 1))) 99 72 (((g_X12_doQuarrel x1 x2 S) 99 72) + (Int32.ofInt 1))) 119 x1.toInt.toNat (f_X12_held (((g_X12_doQuarrel x1 x2 S) 119 x1.toInt.toNat) + (Int32.ofInt 1)) (Int32.ofInt 9))) 119 x2.toInt.toNat) + (Int32.ofInt 1)), .int (Int32.ofInt 9)]) (rest := [.int x2, .ref 120]) rfl (by decide) mt_X12_held (fun _ => rfl) (Nat.le_of_ble_eq_true rfl) (Nat.le_of_ble_eq_true rfl) (fun d' => c_X12_held L xs m d' (((z_s (z_s (z_s (g_X12_doQuarrel x1 x2 S) 99 62 (((g_X12_doQuarrel x1 x2 S) 99 62) + (Int32.ofInt 1))) 99 72 (((g_X12_doQuarrel x1 x2 S) 99 72) + (Int32.ofInt 1))) 119 x1.toInt.toNat (f_X12_held (((g_X12_doQuarrel x1 x2 S) 119 x1.toInt.toNat) + (Int32.ofInt 1)) (Int32.ofInt 9))) 119 x2.toInt.toNat) + (Int32.ofInt 1)) (Int32.ofInt 9) (z_s (z_s (z_s (g_X12_doQuarrel x1 x2 S) 99 62 (((g_X12_doQuarrel x1 x2 S) 99 62) + (Int32.ofInt 1))) 99 72 (((g_X12_doQuarrel x1 x2 S) 99 72) + (Int32.ofInt 1))) 119 x1.toInt.toNat (f_X12_held (((g_X12_doQuarrel x1 x2 S) 119 x1.toInt.toNat) + (Int32.ofInt 1)) (Int32.ofInt 9))) R) ?_
                rintro _ _ _ ⟨_, rfl, rfl, rfl, rfl⟩
                show u_P L xs m d m_X12_whistle 120 [(0, .ref 100), (1, .int x1), (2, .int x2)] [.int (f_X12_held (((z_s (z_s (z_s (g_X12_doQuarrel x1 x2 S) 99 62 (((g_X12_doQuarrel x1 x2 S) 99 62) + (Int32.ofInt 1))) 99 72 (((g_X12_doQuarrel x1 x2 S) 99 72) + (Int32.ofInt 1))) 119 x1.toInt.toNat (f_X12_held (((g_X12_doQuarrel x1 x2 S) 119 x1.toInt.toNat) + (Int32.ofInt 1)) (Int32.ofInt 9))) 119 x2.toInt.toNat) + (Int32.ofInt 1)) (Int32.ofInt 9)), .int x2, .ref 120] (z_s (z_s (z_s (g_X12_doQuarrel x1 x2 S) 99 62 (((g_X12_doQuarrel x1 x2 S) 99 62) + (Int32.ofInt 1))) 99 72 (((g_X12_doQuarrel x1 x2 S) 99 72) + (Int32.ofInt 1))) 119 x1.toInt.toNat (f_X12_held (((g_X12_doQuarrel x1 x2 S) 119 x1.toInt.toNat) + (Int32.ofInt 1)) (Int32.ofInt 9))) R _
                refine u_iast rfl rfl (fun b131 b132 => ?_)
                have hD := hD b131 b132
                show u_P L xs m d m_X12_whistle 121 [(0, .ref 100), (1, .int x1), (2, .int x2)] [] (z_s (z_s (z_s (z_s (g_X12_doQuarrel x1 x2 S) 99 62 (((g_X12_doQuarrel x1 x2 S) 99 62) + (Int32.ofInt 1))) 99 72 (((g_X12_doQuarrel x1 x2 S) 99 72) + (Int32.ofInt 1))) 119 x1.toInt.toNat (f_X12_held (((g_X12_doQuarrel x1 x2 S) 119 x1.toInt.toNat) + (Int32.ofInt 1)) (Int32.ofInt 9))) 119 x2.toInt.toNat (f_X12_held (((z_s (z_s (z_s (g_X12_doQuarrel x1 x2 S) 99 62 (((g_X12_doQuarrel x1 x2 S) 99 62) + (Int32.ofInt 1))) 99 72 (((g_X12_doQuarrel x1 x2 S) 99 72) + (Int32.ofInt 1))) 119 x1.toInt.toNat (f_X12_held (((g_X12_doQuarrel x1 x2 S) 119 x1.toInt.toNat) + (Int32.ofInt 1)) (Int32.ofInt 9))) 119 x2.toInt.toNat) + (Int32.ofInt 1)) (Int32.ofInt 9))) R _
                refine u_st rfl (fun _ => rfl) ?_
                refine u_st rfl (fun _ => rfl) ?_
                refine u_lc (b := [(0, .ref 100), (1, .int x1), (2, .int (x2 + (Int32.ofInt 1)))]) (show ([2, 0, 1] : List Nat).Nodup by decide) (show ([0, 1, 2] : List Nat).Nodup by decide) (fun i => match i with | 0 => rfl | 1 => rfl | 2 => rfl | _ + 3 => rfl) ?_
                exact (ih m hm).2.2 d x1 (x2 + (Int32.ofInt 1)) (z_s (z_s (z_s (z_s (g_X12_doQuarrel x1 x2 S) 99 62 (((g_X12_doQuarrel x1 x2 S) 99 62) + (Int32.ofInt 1))) 99 72 (((g_X12_doQuarrel x1 x2 S) 99 72) + (Int32.ofInt 1))) 119 x1.toInt.toNat (f_X12_held (((g_X12_doQuarrel x1 x2 S) 119 x1.toInt.toNat) + (Int32.ofInt 1)) (Int32.ofInt 9))) 119 x2.toInt.toNat (f_X12_held (((z_s (z_s (z_s (g_X12_doQuarrel x1 x2 S) 99 62 (((g_X12_doQuarrel x1 x2 S) 99 62) + (Int32.ofInt 1))) 99 72 (((g_X12_doQuarrel x1 x2 S) 99 72) + (Int32.ofInt 1))) 119 x1.toInt.toNat (f_X12_held (((g_X12_doQuarrel x1 x2 S) 119 x1.toInt.toNat) + (Int32.ofInt 1)) (Int32.ofInt 9))) 119 x2.toInt.toNat) + (Int32.ofInt 1)) (Int32.ofInt 9))) hD
              · have hD := hD.2 h9
                show u_P L xs m d m_X12_whistle 60 [(0, .ref 100), (1, .int x1), (2, .int x2)] [] (g_X12_doQuarrel x1 x2 S) R _
                refine u_st rfl (fun _ => rfl) ?_
                refine u_st rfl (fun _ => rfl) ?_
                refine u_st rfl (fun _ => rfl) ?_
                refine u_lc (b := [(0, .ref 100), (1, .int x1), (2, .int (x2 + (Int32.ofInt 1)))]) (show ([2, 0, 1] : List Nat).Nodup by decide) (show ([0, 1, 2] : List Nat).Nodup by decide) (fun i => match i with | 0 => rfl | 1 => rfl | 2 => rfl | _ + 3 => rfl) ?_
                exact (ih m hm).2.2 d x1 (x2 + (Int32.ofInt 1)) (g_X12_doQuarrel x1 x2 S) hD
set_option maxRecDepth 4000 in
theorem w_X12_whistle (L : Nat) (xs : Nat → Int32) {R : v_Rf}  (H2 : Int32 → v_Sf → Prop) (H12 : Int32 → Int32 → v_Sf → Prop) (K : v_Sf → Prop) (k2 : ∀ (x1 : Int32) (S : v_Sf), H2 x1 S → D_X12_whistle_2 H2 H12 K x1 S) (k12 : ∀ (x1 : Int32) (x2 : Int32) (S : v_Sf), H12 x1 x2 S → D_X12_whistle_12 H2 H12 K x1 x2 S) (n d : Nat) (S : v_Sf) (hD : D_X12_whistle H2 H12 K S) : u_P L xs n d m_X12_whistle 0 (lv_args 0 [.ref 100]) [] S R (z_V R K) := by
  unfold D_X12_whistle at hD
  show u_P L xs n d m_X12_whistle 0 [(0, .ref 100)] [] S R _
  refine u_st rfl (fun _ => rfl) ?_
  refine u_st rfl (fun _ => rfl) ?_
  refine u_lc (b := [(0, .ref 100), (1, .int (Int32.ofInt 0))]) (show ([1, 0] : List Nat).Nodup by decide) (show ([0, 1] : List Nat).Nodup by decide) (fun i => match i with | 0 => rfl | 1 => rfl | _ + 2 => rfl) ?_
  exact (hd_X12_whistle L xs H2 H12 K k2 k12 n).1 d (Int32.ofInt 0) S hD
noncomputable def r_X12_whistle_12 (κ2 : v_Sf → v_Sf) (k2 : Nat) : Nat → Nat → v_Sf → v_Sf
  | 0, k12, S => κ2 S
  | r + 1, k12, S => (if (S 116 (z_i k2).toInt.toNat) = 0 then r_X12_whistle_12 κ2 k2 r (k12 + 1) S else (if (S 116 (z_i k12).toInt.toNat) = 0 then r_X12_whistle_12 κ2 k2 r (k12 + 1) S else (if ¬ (S 120 (z_i k2).toInt.toNat) = (S 120 (z_i k12).toInt.toNat) then r_X12_whistle_12 κ2 k2 r (k12 + 1) S else (if ¬ (f_X12_doQuarrel (z_i k2) (z_i k12) S) = 0 then r_X12_whistle_12 κ2 k2 r (k12 + 1) (z_s (z_s (z_s (z_s (g_X12_doQuarrel (z_i k2) (z_i k12) S) 99 62 (((g_X12_doQuarrel (z_i k2) (z_i k12) S) 99 62) + (Int32.ofInt 1))) 99 72 (((g_X12_doQuarrel (z_i k2) (z_i k12) S) 99 72) + (Int32.ofInt 1))) 119 (z_i k2).toInt.toNat (f_X12_held (((g_X12_doQuarrel (z_i k2) (z_i k12) S) 119 (z_i k2).toInt.toNat) + (Int32.ofInt 1)) (Int32.ofInt 9))) 119 (z_i k12).toInt.toNat (f_X12_held (((z_s (z_s (z_s (g_X12_doQuarrel (z_i k2) (z_i k12) S) 99 62 (((g_X12_doQuarrel (z_i k2) (z_i k12) S) 99 62) + (Int32.ofInt 1))) 99 72 (((g_X12_doQuarrel (z_i k2) (z_i k12) S) 99 72) + (Int32.ofInt 1))) 119 (z_i k2).toInt.toNat (f_X12_held (((g_X12_doQuarrel (z_i k2) (z_i k12) S) 119 (z_i k2).toInt.toNat) + (Int32.ofInt 1)) (Int32.ofInt 9))) 119 (z_i k12).toInt.toNat) + (Int32.ofInt 1)) (Int32.ofInt 9))) else r_X12_whistle_12 κ2 k2 r (k12 + 1) (g_X12_doQuarrel (z_i k2) (z_i k12) S)))))
noncomputable def r_X12_whistle_2  : Nat → Nat → v_Sf → v_Sf
  | 0, k2, S => S
  | r + 1, k2, S => r_X12_whistle_12 (fun S => r_X12_whistle_2 r (k2 + 1) S) k2 (12 - (k2 + 1)) (k2 + 1) S
noncomputable def F_X12_whistle  (S : v_Sf) : v_Sf := r_X12_whistle_2 (12 - 0) 0 S
noncomputable def g_X12_whistle  (S : v_Sf) : v_Sf := F_X12_whistle  S
theorem c_X12_whistle (L : Nat) (xs : Nat → Int32) (n d : Nat)  (S : v_Sf) (R : v_Rf) : u_P L xs n d m_X12_whistle 0 (lv_args 0 [.ref 100]) [] S R (z_V R (fun S1 => g_X12_whistle  S = S1)) := by
  refine w_X12_whistle L xs  (fun y1 T => ∃ (k2 : Nat), k2 ≤ 12 ∧ z_i k2 = y1 ∧ r_X12_whistle_2 (12 - k2) k2 T = F_X12_whistle  S) (fun y1 y2 T => ∃ (k2 k12 : Nat), k12 ≤ 12 ∧ z_i k12 = y2 ∧ k2 < 12 ∧ z_i k2 = y1 ∧ r_X12_whistle_12 (fun V => r_X12_whistle_2 (12 - (k2 + 1)) (k2 + 1) V) k2 (12 - k12) k12 T = F_X12_whistle  S) (fun S1 => g_X12_whistle  S = S1) ?_ ?_ n d S ?_
  · rintro _ S1 ⟨k2, hkk, rfl, e⟩
    unfold D_X12_whistle_2
    rcases Nat.lt_or_ge k2 (12) with hk | hk
    · rw [show 12 - k2 = (12 - (k2 + 1)) + 1 by omega, r_X12_whistle_2] at e
      refine ⟨fun q1 => ?_, fun q1 => ?_⟩
      · exact absurd hk (Nat.not_lt.mpr (z_leB2 (B := 12) q1 (by decide) (by omega)))
      · exact ⟨k2, (k2 + 1), by omega, (z_i1 k2).symm, by omega, rfl, e⟩
    · rw [show 12 - k2 = 0 by omega, r_X12_whistle_2] at e
      refine ⟨fun q2 => ?_, fun q2 => ?_⟩
      · exact e.symm
      · exact absurd hk (Nat.not_le.mpr (z_ltB2 (B := 12) q2 (by decide) (by omega)))
  · rintro _ _ S1 ⟨k2, k12, hkk, rfl, hk2, rfl, e⟩
    unfold D_X12_whistle_12
    rcases Nat.lt_or_ge k12 (12) with hk | hk
    · rw [show 12 - k12 = (12 - (k12 + 1)) + 1 by omega, r_X12_whistle_12] at e
      refine ⟨fun q3 => ?_, fun q3 => ?_⟩
      · exact absurd hk (Nat.not_lt.mpr (z_leB2 (B := 12) q3 (by decide) (by omega)))
      · intro _ _
        refine ⟨fun q4 => ?_, fun q4 => ?_⟩
        · rw [if_pos q4] at e
          exact ⟨k2, (k12 + 1), by omega, (z_i1 k12).symm, by omega, rfl, e⟩
        · intro _ _
          refine ⟨fun q5 => ?_, fun q5 => ?_⟩
          · rw [if_neg q4, if_pos q5] at e
            exact ⟨k2, (k12 + 1), by omega, (z_i1 k12).symm, by omega, rfl, e⟩
          · intro _ _
            intro _ _
            refine ⟨fun q6 => ?_, fun q6 => ?_⟩
            · rw [if_neg q4, if_neg q5, if_pos q6] at e
              exact ⟨k2, (k12 + 1), by omega, (z_i1 k12).symm, by omega, rfl, e⟩
            · refine ⟨fun q7 => ?_, fun q7 => ?_⟩
              · intro _ _
                intro _ _
                intro _ _
                intro _ _
                rw [if_neg q4, if_neg q5, if_neg q6, if_pos q7] at e
                exact ⟨k2, (k12 + 1), by omega, (z_i1 k12).symm, by omega, rfl, e⟩
              · rw [if_neg q4, if_neg q5, if_neg q6, if_neg q7] at e
                exact ⟨k2, (k12 + 1), by omega, (z_i1 k12).symm, by omega, rfl, e⟩
    · rw [show 12 - k12 = 0 by omega, r_X12_whistle_12] at e
      refine ⟨fun q8 => ?_, fun q8 => ?_⟩
      · exact ⟨(k2 + 1), by omega, (z_i1 k2).symm, e⟩
      · exact absurd hk (Nat.not_le.mpr (z_ltB2 (B := 12) q8 (by decide) (by omega)))
  · unfold D_X12_whistle
    have e : r_X12_whistle_2 (12 - 0) 0 S = F_X12_whistle  S := by rw [F_X12_whistle]
    exact ⟨0, by omega, rfl, e⟩
noncomputable abbrev m_X12_nursesGo : g_M := (g_cn 12, yX12_nursesGo, cX12_nursesGo, 3, none, g_look2 ttX12_nursesGo)
set_option maxRecDepth 20000 in
theorem mt_X12_nursesGo : g_mt 235 = some m_X12_nursesGo := rfl
noncomputable def D_X12_nursesGo_2  (H2 : Int32 → v_Sf → Prop) (H34 : Int32 → v_Sf → Prop) (K : v_Sf → Prop) (x1 : Int32) (S : v_Sf) : Prop := (((Int32.ofInt 5) ≤ x1 → H34 (Int32.ofInt 0) S) ∧ (¬ ((Int32.ofInt 5) ≤ x1) → (0 ≤ x1.toInt → x1.toInt < 5 → (((S 131 x1.toInt.toNat) ≤ 0 → H2 (x1 + (Int32.ofInt 1)) S) ∧ (¬ ((S 131 x1.toInt.toNat) ≤ 0) → (0 ≤ x1.toInt → x1.toInt < 5 → (0 ≤ x1.toInt → x1.toInt < 5 → H2 (x1 + (Int32.ofInt 1)) (z_s S 131 x1.toInt.toNat ((S 131 x1.toInt.toNat) - (Int32.ofInt 1))))))))))
noncomputable def D_X12_nursesGo_34  (H2 : Int32 → v_Sf → Prop) (H34 : Int32 → v_Sf → Prop) (K : v_Sf → Prop) (x1 : Int32) (S : v_Sf) : Prop := (((Int32.ofInt 6) ≤ x1 → K S) ∧ (¬ ((Int32.ofInt 6) ≤ x1) → (((f_X12_isWell x1 S) = 0 → H34 (x1 + (Int32.ofInt 1)) S) ∧ (¬ ((f_X12_isWell x1 S) = 0) → (((¬ (f_X12_manyIn x1 S) = 0) → (0 ≤ x1.toInt → x1.toInt < 6 → (((f_X12_draw (g_X12_falling (S 125 x1.toInt.toNat) x1 S)) < (f_X12_falling (S 125 x1.toInt.toNat) x1 S) → (0 ≤ x1.toInt → x1.toInt < 6 → (0 ≤ x1.toInt → x1.toInt < 6 → (0 ≤ ((g_X12_draw (g_X12_falling (S 125 x1.toInt.toNat) x1 S)) 125 x1.toInt.toNat).toInt → ((g_X12_draw (g_X12_falling (S 125 x1.toInt.toNat) x1 S)) 125 x1.toInt.toNat).toInt < 5 → (0 ≤ ((g_X12_draw (g_X12_falling (S 125 x1.toInt.toNat) x1 S)) 125 x1.toInt.toNat).toInt → ((g_X12_draw (g_X12_falling (S 125 x1.toInt.toNat) x1 S)) 125 x1.toInt.toNat).toInt < 5 → H34 (x1 + (Int32.ofInt 1)) (z_s (z_s (g_X12_draw (g_X12_falling (S 125 x1.toInt.toNat) x1 S)) 131 (((g_X12_draw (g_X12_falling (S 125 x1.toInt.toNat) x1 S)) 125 x1.toInt.toNat).toInt.toNat) (((g_X12_draw (g_X12_falling (S 125 x1.toInt.toNat) x1 S)) 130 (((g_X12_draw (g_X12_falling (S 125 x1.toInt.toNat) x1 S)) 125 x1.toInt.toNat).toInt.toNat)) + (Int32.ofInt 1))) 99 73 (((g_X12_draw (g_X12_falling (S 125 x1.toInt.toNat) x1 S)) 99 73) + (Int32.ofInt 1)))))))) ∧ (¬ ((f_X12_draw (g_X12_falling (S 125 x1.toInt.toNat) x1 S)) < (f_X12_falling (S 125 x1.toInt.toNat) x1 S)) → H34 (x1 + (Int32.ofInt 1)) (g_X12_draw (g_X12_falling (S 125 x1.toInt.toNat) x1 S)))))) ∧ (¬ (¬ (f_X12_manyIn x1 S) = 0) → H34 (x1 + (Int32.ofInt 1)) S))))))
noncomputable def D_X12_nursesGo  (H2 : Int32 → v_Sf → Prop) (H34 : Int32 → v_Sf → Prop) (K : v_Sf → Prop) (S : v_Sf) : Prop := H2 (Int32.ofInt 0) S
set_option maxRecDepth 4000 in
theorem hd_X12_nursesGo (L : Nat) (xs : Nat → Int32) {R : v_Rf}  (H2 : Int32 → v_Sf → Prop) (H34 : Int32 → v_Sf → Prop) (K : v_Sf → Prop) (k2 : ∀ (x1 : Int32) (S : v_Sf), H2 x1 S → D_X12_nursesGo_2 H2 H34 K x1 S) (k34 : ∀ (x1 : Int32) (S : v_Sf), H34 x1 S → D_X12_nursesGo_34 H2 H34 K x1 S) : ∀ n, (∀ (d : Nat) (x1 : Int32) (S : v_Sf), H2 x1 S → u_P L xs n d m_X12_nursesGo 2 [(0, .ref 100), (1, .int x1)] [] S R (z_V R K)) ∧ (∀ (d : Nat) (x1 : Int32) (S : v_Sf), H34 x1 S → u_P L xs n d m_X12_nursesGo 34 [(0, .ref 100), (1, .int x1)] [] S R (z_V R K)) ∧ (∀ (d : Nat) (j2 : Int32) (x1 : Int32) (S : v_Sf), H34 x1 S → u_P L xs n d m_X12_nursesGo 34 [(0, .ref 100), (1, .int x1), (2, .int j2)] [] S R (z_V R K)) := by
  intro n
  induction n using Nat.strongRecOn with
  | ind n ih =>
    refine ⟨?_, ?_, ?_⟩
    · intro d x1 S hD
      have hD := k2 x1 S hD
      unfold D_X12_nursesGo_2 at hD
      show u_P L xs n d m_X12_nursesGo 2 [(0, .ref 100), (1, .int x1)] [] S R _
      refine u_st1 rfl (fun _ => rfl) (fun m hm => ?_)
      refine u_st rfl (fun _ => rfl) ?_
      show u_P L xs m d m_X12_nursesGo 4 [(0, .ref 100), (1, .int x1)] [.int (Int32.ofInt 5), .int x1] S R _
      refine u_ic_ge rfl (fun h1 => ?_) (fun h1 => ?_)
      · have hD := hD.1 h1
        show u_P L xs m d m_X12_nursesGo 32 [(0, .ref 100), (1, .int x1)] [] S R _
        refine u_st rfl (fun _ => rfl) ?_
        refine u_st rfl (fun _ => rfl) ?_
        refine u_lc (b := [(0, .ref 100), (1, .int (Int32.ofInt 0))]) (show ([1, 0] : List Nat).Nodup by decide) (show ([0, 1] : List Nat).Nodup by decide) (fun i => match i with | 0 => rfl | 1 => rfl | _ + 2 => rfl) ?_
        exact (ih m hm).2.1 d (Int32.ofInt 0) S hD
      · have hD := hD.2 h1
        show u_P L xs m d m_X12_nursesGo 7 [(0, .ref 100), (1, .int x1)] [] S R _
        refine u_st rfl (fun _ => rfl) ?_
        show u_P L xs m d m_X12_nursesGo 8 [(0, .ref 100), (1, .int x1)] [.ref 100] S R _
        refine u_getr rfl v_tyM rfl ?_
        refine u_st rfl (fun _ => rfl) ?_
        show u_P L xs m d m_X12_nursesGo 12 [(0, .ref 100), (1, .int x1)] [.int x1, .ref 132] S R _
        refine u_ialdE (v := S 131 x1.toInt.toNat) rfl rfl rfl (fun b21 b22 => ?_)
        have hD := hD b21 b22
        show u_P L xs m d m_X12_nursesGo 13 [(0, .ref 100), (1, .int x1)] [.int (S 131 x1.toInt.toNat)] S R _
        refine u_if_le rfl (fun h3 => ?_) (fun h3 => ?_)
        · have hD := hD.1 h3
          show u_P L xs m d m_X12_nursesGo 26 [(0, .ref 100), (1, .int x1)] [] S R _
          refine u_st rfl (fun _ => rfl) ?_
          refine u_st rfl (fun _ => rfl) ?_
          refine u_lc (b := [(0, .ref 100), (1, .int (x1 + (Int32.ofInt 1)))]) (show ([1, 0] : List Nat).Nodup by decide) (show ([0, 1] : List Nat).Nodup by decide) (fun i => match i with | 0 => rfl | 1 => rfl | _ + 2 => rfl) ?_
          exact (ih m hm).1 d (x1 + (Int32.ofInt 1)) S hD
        · have hD := hD.2 h3
          show u_P L xs m d m_X12_nursesGo 16 [(0, .ref 100), (1, .int x1)] [] S R _
          refine u_st rfl (fun _ => rfl) ?_
          show u_P L xs m d m_X12_nursesGo 17 [(0, .ref 100), (1, .int x1)] [.ref 100] S R _
          refine u_getr rfl v_tyM rfl ?_
          refine u_st rfl (fun _ => rfl) ?_
          refine u_st rfl (fun _ => rfl) ?_
          show u_P L xs m d m_X12_nursesGo 22 [(0, .ref 100), (1, .int x1)] [.int x1, .ref 132, .int x1, .ref 132] S R _
          refine u_ialdE (v := S 131 x1.toInt.toNat) rfl rfl rfl (fun b41 b42 => ?_)
          have hD := hD b41 b42
          show u_P L xs m d m_X12_nursesGo 23 [(0, .ref 100), (1, .int x1)] [.int (S 131 x1.toInt.toNat), .int x1, .ref 132] S R _
          refine u_st rfl (fun _ => rfl) ?_
          refine u_st rfl (fun _ => rfl) ?_
          show u_P L xs m d m_X12_nursesGo 25 [(0, .ref 100), (1, .int x1)] [.int ((S 131 x1.toInt.toNat) - (Int32.ofInt 1)), .int x1, .ref 132] S R _
          refine u_iast rfl rfl (fun b51 b52 => ?_)
          have hD := hD b51 b52
          show u_P L xs m d m_X12_nursesGo 26 [(0, .ref 100), (1, .int x1)] [] (z_s S 131 x1.toInt.toNat ((S 131 x1.toInt.toNat) - (Int32.ofInt 1))) R _
          refine u_st rfl (fun _ => rfl) ?_
          refine u_st rfl (fun _ => rfl) ?_
          refine u_lc (b := [(0, .ref 100), (1, .int (x1 + (Int32.ofInt 1)))]) (show ([1, 0] : List Nat).Nodup by decide) (show ([0, 1] : List Nat).Nodup by decide) (fun i => match i with | 0 => rfl | 1 => rfl | _ + 2 => rfl) ?_
          exact (ih m hm).1 d (x1 + (Int32.ofInt 1)) (z_s S 131 x1.toInt.toNat ((S 131 x1.toInt.toNat) - (Int32.ofInt 1))) hD
    · intro d x1 S hD
      have hD := k34 x1 S hD
      unfold D_X12_nursesGo_34 at hD
      show u_P L xs n d m_X12_nursesGo 34 [(0, .ref 100), (1, .int x1)] [] S R _
      refine u_st1 rfl (fun _ => rfl) (fun m hm => ?_)
      refine u_st rfl (fun _ => rfl) ?_
      show u_P L xs m d m_X12_nursesGo 37 [(0, .ref 100), (1, .int x1)] [.int (Int32.ofInt 6), .int x1] S R _
      refine u_ic_ge rfl (fun h1 => ?_) (fun h1 => ?_)
      · have hD := hD.1 h1
        show u_P L xs m d m_X12_nursesGo 122 [(0, .ref 100), (1, .int x1)] [] S R _
        exact u_ret rfl rfl ⟨rfl, rfl, hD⟩
      · have hD := hD.2 h1
        show u_P L xs m d m_X12_nursesGo 40 [(0, .ref 100), (1, .int x1)] [] S R _
        refine u_st rfl (fun _ => rfl) ?_
        refine u_st rfl (fun _ => rfl) ?_
        show u_P L xs m d m_X12_nursesGo 42 [(0, .ref 100), (1, .int x1)] [.int x1, .ref 100] S R _
        refine u_cv (rest := []) rfl (by decide) mt_X12_isWell v_tyM rfl rfl rfl (Nat.le_of_ble_eq_true rfl) (Nat.le_of_ble_eq_true rfl) (Nat.le_of_ble_eq_true rfl) (fun d' => c_X12_isWell L xs m d' x1 S R) ?_
        rintro _ _ _ ⟨_, rfl, rfl, rfl, rfl⟩
        show u_P L xs m d m_X12_nursesGo 45 [(0, .ref 100), (1, .int x1)] [.int (f_X12_isWell x1 S)] S R _
        refine u_if_eq rfl (fun h2 => ?_) (fun h2 => ?_)
        · have hD := hD.1 h2
          show u_P L xs m d m_X12_nursesGo 116 [(0, .ref 100), (1, .int x1)] [] S R _
          refine u_st rfl (fun _ => rfl) ?_
          refine u_st rfl (fun _ => rfl) ?_
          refine u_lc (b := [(0, .ref 100), (1, .int (x1 + (Int32.ofInt 1)))]) (show ([1, 0] : List Nat).Nodup by decide) (show ([0, 1] : List Nat).Nodup by decide) (fun i => match i with | 0 => rfl | 1 => rfl | _ + 2 => rfl) ?_
          exact (ih m hm).2.1 d (x1 + (Int32.ofInt 1)) S hD
        · have hD := hD.2 h2
          show u_P L xs m d m_X12_nursesGo 48 [(0, .ref 100), (1, .int x1)] [] S R _
          refine u_st rfl (fun _ => rfl) ?_
          refine u_st rfl (fun _ => rfl) ?_
          show u_P L xs m d m_X12_nursesGo 50 [(0, .ref 100), (1, .int x1)] [.int x1, .ref 100] S R _
          refine u_cv (rest := []) rfl (by decide) mt_X12_manyIn v_tyM rfl rfl rfl (Nat.le_of_ble_eq_true rfl) (Nat.le_of_ble_eq_true rfl) (Nat.le_of_ble_eq_true rfl) (fun d' => c_X12_manyIn L xs m d' x1 S R) ?_
          rintro _ _ _ ⟨_, rfl, rfl, rfl, rfl⟩
          show u_P L xs m d m_X12_nursesGo 53 [(0, .ref 100), (1, .int x1)] [.int (f_X12_manyIn x1 S)] S R _
          refine u_if_ne rfl (fun h3 => ?_) (fun h3 => ?_)
          · have hD := hD.1 h3
            show u_P L xs m d m_X12_nursesGo 59 [(0, .ref 100), (1, .int x1)] [] S R _
            refine u_st rfl (fun _ => rfl) ?_
            refine u_st rfl (fun _ => rfl) ?_
            show u_P L xs m d m_X12_nursesGo 61 [(0, .ref 100), (1, .int x1)] [.ref 100, .ref 100] S R _
            refine u_getr rfl v_tyM rfl ?_
            refine u_st rfl (fun _ => rfl) ?_
            show u_P L xs m d m_X12_nursesGo 65 [(0, .ref 100), (1, .int x1)] [.int x1, .ref 126, .ref 100] S R _
            refine u_ialdE (v := S 125 x1.toInt.toNat) rfl rfl rfl (fun b41 b42 => ?_)
            have hD := hD b41 b42
            show u_P L xs m d m_X12_nursesGo 66 [(0, .ref 100), (1, .int x1)] [.int (S 125 x1.toInt.toNat), .ref 100] S R _
            refine u_st rfl (fun _ => rfl) ?_
            show u_P L xs m d m_X12_nursesGo 67 [(0, .ref 100), (1, .int x1)] [.int x1, .int (S 125 x1.toInt.toNat), .ref 100] S R _
            refine u_cv (rest := []) rfl (by decide) mt_X12_falling v_tyM rfl rfl rfl (Nat.le_of_ble_eq_true rfl) (Nat.le_of_ble_eq_true rfl) (Nat.le_of_ble_eq_true rfl) (fun d' => c_X12_falling L xs m d' (S 125 x1.toInt.toNat) x1 S R) ?_
            rintro _ _ _ ⟨_, rfl, rfl, rfl, rfl⟩
            refine u_st rfl (fun _ => rfl) ?_
            refine u_st rfl (fun _ => rfl) ?_
            show u_P L xs m d m_X12_nursesGo 72 [(2, .int (f_X12_falling (S 125 x1.toInt.toNat) x1 S)), (0, .ref 100), (1, .int x1)] [.ref 100] (g_X12_falling (S 125 x1.toInt.toNat) x1 S) R _
            refine u_cv (rest := []) rfl (by decide) mt_X12_draw v_tyM rfl rfl rfl (Nat.le_of_ble_eq_true rfl) (Nat.le_of_ble_eq_true rfl) (Nat.le_of_ble_eq_true rfl) (fun d' => c_X12_draw L xs m d' (g_X12_falling (S 125 x1.toInt.toNat) x1 S) R) ?_
            rintro _ _ _ ⟨_, rfl, rfl, rfl, rfl⟩
            refine u_st rfl (fun _ => rfl) ?_
            show u_P L xs m d m_X12_nursesGo 76 [(2, .int (f_X12_falling (S 125 x1.toInt.toNat) x1 S)), (0, .ref 100), (1, .int x1)] [.int (f_X12_falling (S 125 x1.toInt.toNat) x1 S), .int (f_X12_draw (g_X12_falling (S 125 x1.toInt.toNat) x1 S))] (g_X12_draw (g_X12_falling (S 125 x1.toInt.toNat) x1 S)) R _
            refine u_ic_lt rfl (fun h5 => ?_) (fun h5 => ?_)
            · have hD := hD.1 h5
              show u_P L xs m d m_X12_nursesGo 82 [(2, .int (f_X12_falling (S 125 x1.toInt.toNat) x1 S)), (0, .ref 100), (1, .int x1)] [] (g_X12_draw (g_X12_falling (S 125 x1.toInt.toNat) x1 S)) R _
              refine u_st rfl (fun _ => rfl) ?_
              show u_P L xs m d m_X12_nursesGo 83 [(2, .int (f_X12_falling (S 125 x1.toInt.toNat) x1 S)), (0, .ref 100), (1, .int x1)] [.ref 100] (g_X12_draw (g_X12_falling (S 125 x1.toInt.toNat) x1 S)) R _
              refine u_getr rfl v_tyM rfl ?_
              refine u_st rfl (fun _ => rfl) ?_
              show u_P L xs m d m_X12_nursesGo 87 [(2, .int (f_X12_falling (S 125 x1.toInt.toNat) x1 S)), (0, .ref 100), (1, .int x1)] [.ref 100, .ref 132] (g_X12_draw (g_X12_falling (S 125 x1.toInt.toNat) x1 S)) R _
              refine u_getr rfl v_tyM rfl ?_
              refine u_st rfl (fun _ => rfl) ?_
              show u_P L xs m d m_X12_nursesGo 91 [(2, .int (f_X12_falling (S 125 x1.toInt.toNat) x1 S)), (0, .ref 100), (1, .int x1)] [.int x1, .ref 126, .ref 132] (g_X12_draw (g_X12_falling (S 125 x1.toInt.toNat) x1 S)) R _
              refine u_ialdE (v := (g_X12_draw (g_X12_falling (S 125 x1.toInt.toNat) x1 S)) 125 x1.toInt.toNat) rfl rfl rfl (fun b61 b62 => ?_)
              have hD := hD b61 b62
              show u_P L xs m d m_X12_nursesGo 92 [(2, .int (f_X12_falling (S 125 x1.toInt.toNat) x1 S)), (0, .ref 100), (1, .int x1)] [.int ((g_X12_draw (g_X12_falling (S 125 x1.toInt.toNat) x1 S)) 125 x1.toInt.toNat), .ref 132] (g_X12_draw (g_X12_falling (S 125 x1.toInt.toNat) x1 S)) R _
              refine u_st rfl (fun _ => rfl) ?_
              show u_P L xs m d m_X12_nursesGo 93 [(2, .int (f_X12_falling (S 125 x1.toInt.toNat) x1 S)), (0, .ref 100), (1, .int x1)] [.ref 100, .int ((g_X12_draw (g_X12_falling (S 125 x1.toInt.toNat) x1 S)) 125 x1.toInt.toNat), .ref 132] (g_X12_draw (g_X12_falling (S 125 x1.toInt.toNat) x1 S)) R _
              refine u_getr rfl v_tyM rfl ?_
              refine u_st rfl (fun _ => rfl) ?_
              show u_P L xs m d m_X12_nursesGo 97 [(2, .int (f_X12_falling (S 125 x1.toInt.toNat) x1 S)), (0, .ref 100), (1, .int x1)] [.ref 100, .ref 131, .int ((g_X12_draw (g_X12_falling (S 125 x1.toInt.toNat) x1 S)) 125 x1.toInt.toNat), .ref 132] (g_X12_draw (g_X12_falling (S 125 x1.toInt.toNat) x1 S)) R _
              refine u_getr rfl v_tyM rfl ?_
              refine u_st rfl (fun _ => rfl) ?_
              show u_P L xs m d m_X12_nursesGo 101 [(2, .int (f_X12_falling (S 125 x1.toInt.toNat) x1 S)), (0, .ref 100), (1, .int x1)] [.int x1, .ref 126, .ref 131, .int ((g_X12_draw (g_X12_falling (S 125 x1.toInt.toNat) x1 S)) 125 x1.toInt.toNat), .ref 132] (g_X12_draw (g_X12_falling (S 125 x1.toInt.toNat) x1 S)) R _
              refine u_ialdE (v := (g_X12_draw (g_X12_falling (S 125 x1.toInt.toNat) x1 S)) 125 x1.toInt.toNat) rfl rfl rfl (fun b71 b72 => ?_)
              have hD := hD b71 b72
              show u_P L xs m d m_X12_nursesGo 102 [(2, .int (f_X12_falling (S 125 x1.toInt.toNat) x1 S)), (0, .ref 100), (1, .int x1)] [.int ((g_X12_draw (g_X12_falling (S 125 x1.toInt.toNat) x1 S)) 125 x1.toInt.toNat), .ref 131, .int ((g_X12_draw (g_X12_falling (S 125 x1.toInt.toNat) x1 S)) 125 x1.toInt.toNat), .ref 132] (g_X12_draw (g_X12_falling (S 125 x1.toInt.toNat) x1 S)) R _
              refine u_ialdE (v := (g_X12_draw (g_X12_falling (S 125 x1.toInt.toNat) x1 S)) 130 (((g_X12_draw (g_X12_falling (S 125 x1.toInt.toNat) x1 S)) 125 x1.toInt.toNat).toInt.toNat)) rfl rfl rfl (fun b81 b82 => ?_)
              have hD := hD b81 b82
              show u_P L xs m d m_X12_nursesGo 103 [(2, .int (f_X12_falling (S 125 x1.toInt.toNat) x1 S)), (0, .ref 100), (1, .int x1)] [.int ((g_X12_draw (g_X12_falling (S 125 x1.toInt.toNat) x1 S)) 130 (((g_X12_draw (g_X12_falling (S 125 x1.toInt.toNat) x1 S)) 125 x1.toInt.toNat).toInt.toNat)), .int ((g_X12_draw (g_X12_falling (S 125 x1.toInt.toNat) x1 S)) 125 x1.toInt.toNat), .ref 132] (g_X12_draw (g_X12_falling (S 125 x1.toInt.toNat) x1 S)) R _
              refine u_st rfl (fun _ => rfl) ?_
              refine u_st rfl (fun _ => rfl) ?_
              show u_P L xs m d m_X12_nursesGo 105 [(2, .int (f_X12_falling (S 125 x1.toInt.toNat) x1 S)), (0, .ref 100), (1, .int x1)] [.int (((g_X12_draw (g_X12_falling (S 125 x1.toInt.toNat) x1 S)) 130 (((g_X12_draw (g_X12_falling (S 125 x1.toInt.toNat) x1 S)) 125 x1.toInt.toNat).toInt.toNat)) + (Int32.ofInt 1)), .int ((g_X12_draw (g_X12_falling (S 125 x1.toInt.toNat) x1 S)) 125 x1.toInt.toNat), .ref 132] (g_X12_draw (g_X12_falling (S 125 x1.toInt.toNat) x1 S)) R _
              refine u_iast rfl rfl (fun b91 b92 => ?_)
              have hD := hD b91 b92
              show u_P L xs m d m_X12_nursesGo 106 [(2, .int (f_X12_falling (S 125 x1.toInt.toNat) x1 S)), (0, .ref 100), (1, .int x1)] [] (z_s (g_X12_draw (g_X12_falling (S 125 x1.toInt.toNat) x1 S)) 131 (((g_X12_draw (g_X12_falling (S 125 x1.toInt.toNat) x1 S)) 125 x1.toInt.toNat).toInt.toNat) (((g_X12_draw (g_X12_falling (S 125 x1.toInt.toNat) x1 S)) 130 (((g_X12_draw (g_X12_falling (S 125 x1.toInt.toNat) x1 S)) 125 x1.toInt.toNat).toInt.toNat)) + (Int32.ofInt 1))) R _
              refine u_st rfl (fun _ => rfl) ?_
              refine u_st rfl (fun _ => rfl) ?_
              show u_P L xs m d m_X12_nursesGo 108 [(2, .int (f_X12_falling (S 125 x1.toInt.toNat) x1 S)), (0, .ref 100), (1, .int x1)] [.ref 100, .ref 100] (z_s (g_X12_draw (g_X12_falling (S 125 x1.toInt.toNat) x1 S)) 131 (((g_X12_draw (g_X12_falling (S 125 x1.toInt.toNat) x1 S)) 125 x1.toInt.toNat).toInt.toNat) (((g_X12_draw (g_X12_falling (S 125 x1.toInt.toNat) x1 S)) 130 (((g_X12_draw (g_X12_falling (S 125 x1.toInt.toNat) x1 S)) 125 x1.toInt.toNat).toInt.toNat)) + (Int32.ofInt 1))) R _
              refine u_getE (v := (g_X12_draw (g_X12_falling (S 125 x1.toInt.toNat) x1 S)) 99 73) rfl v_tyM rfl (z_sn (fun h => absurd h.1 (by decide))) ?_
              refine u_st rfl (fun _ => rfl) ?_
              refine u_st rfl (fun _ => rfl) ?_
              show u_P L xs m d m_X12_nursesGo 113 [(2, .int (f_X12_falling (S 125 x1.toInt.toNat) x1 S)), (0, .ref 100), (1, .int x1)] [.int (((g_X12_draw (g_X12_falling (S 125 x1.toInt.toNat) x1 S)) 99 73) + (Int32.ofInt 1)), .ref 100] (z_s (g_X12_draw (g_X12_falling (S 125 x1.toInt.toNat) x1 S)) 131 (((g_X12_draw (g_X12_falling (S 125 x1.toInt.toNat) x1 S)) 125 x1.toInt.toNat).toInt.toNat) (((g_X12_draw (g_X12_falling (S 125 x1.toInt.toNat) x1 S)) 130 (((g_X12_draw (g_X12_falling (S 125 x1.toInt.toNat) x1 S)) 125 x1.toInt.toNat).toInt.toNat)) + (Int32.ofInt 1))) R _
              refine u_put rfl v_tyM rfl ?_
              refine u_st rfl (fun _ => rfl) ?_
              refine u_st rfl (fun _ => rfl) ?_
              refine u_lc (b := [(0, .ref 100), (1, .int (x1 + (Int32.ofInt 1))), (2, .int (f_X12_falling (S 125 x1.toInt.toNat) x1 S))]) (show ([1, 2, 0] : List Nat).Nodup by decide) (show ([0, 1, 2] : List Nat).Nodup by decide) (fun i => match i with | 0 => rfl | 1 => rfl | 2 => rfl | _ + 3 => rfl) ?_
              exact (ih m hm).2.2 d (f_X12_falling (S 125 x1.toInt.toNat) x1 S) (x1 + (Int32.ofInt 1)) (z_s (z_s (g_X12_draw (g_X12_falling (S 125 x1.toInt.toNat) x1 S)) 131 (((g_X12_draw (g_X12_falling (S 125 x1.toInt.toNat) x1 S)) 125 x1.toInt.toNat).toInt.toNat) (((g_X12_draw (g_X12_falling (S 125 x1.toInt.toNat) x1 S)) 130 (((g_X12_draw (g_X12_falling (S 125 x1.toInt.toNat) x1 S)) 125 x1.toInt.toNat).toInt.toNat)) + (Int32.ofInt 1))) 99 73 (((g_X12_draw (g_X12_falling (S 125 x1.toInt.toNat) x1 S)) 99 73) + (Int32.ofInt 1))) hD
            · have hD := hD.2 h5
              show u_P L xs m d m_X12_nursesGo 79 [(2, .int (f_X12_falling (S 125 x1.toInt.toNat) x1 S)), (0, .ref 100), (1, .int x1)] [] (g_X12_draw (g_X12_falling (S 125 x1.toInt.toNat) x1 S)) R _
              refine u_st rfl (fun _ => rfl) ?_
              refine u_st rfl (fun _ => rfl) ?_
              refine u_st rfl (fun _ => rfl) ?_
              refine u_lc (b := [(0, .ref 100), (1, .int (x1 + (Int32.ofInt 1))), (2, .int (f_X12_falling (S 125 x1.toInt.toNat) x1 S))]) (show ([1, 2, 0] : List Nat).Nodup by decide) (show ([0, 1, 2] : List Nat).Nodup by decide) (fun i => match i with | 0 => rfl | 1 => rfl | 2 => rfl | _ + 3 => rfl) ?_
              exact (ih m hm).2.2 d (f_X12_falling (S 125 x1.toInt.toNat) x1 S) (x1 + (Int32.ofInt 1)) (g_X12_draw (g_X12_falling (S 125 x1.toInt.toNat) x1 S)) hD
          · have hD := hD.2 h3
            show u_P L xs m d m_X12_nursesGo 56 [(0, .ref 100), (1, .int x1)] [] S R _
            refine u_st rfl (fun _ => rfl) ?_
            refine u_st rfl (fun _ => rfl) ?_
            refine u_st rfl (fun _ => rfl) ?_
            refine u_lc (b := [(0, .ref 100), (1, .int (x1 + (Int32.ofInt 1)))]) (show ([1, 0] : List Nat).Nodup by decide) (show ([0, 1] : List Nat).Nodup by decide) (fun i => match i with | 0 => rfl | 1 => rfl | _ + 2 => rfl) ?_
            exact (ih m hm).2.1 d (x1 + (Int32.ofInt 1)) S hD
    · intro d j2 x1 S hD
      have hD := k34 x1 S hD
      unfold D_X12_nursesGo_34 at hD
      show u_P L xs n d m_X12_nursesGo 34 [(0, .ref 100), (1, .int x1), (2, .int j2)] [] S R _
      refine u_st1 rfl (fun _ => rfl) (fun m hm => ?_)
      refine u_st rfl (fun _ => rfl) ?_
      show u_P L xs m d m_X12_nursesGo 37 [(0, .ref 100), (1, .int x1), (2, .int j2)] [.int (Int32.ofInt 6), .int x1] S R _
      refine u_ic_ge rfl (fun h1 => ?_) (fun h1 => ?_)
      · have hD := hD.1 h1
        show u_P L xs m d m_X12_nursesGo 122 [(0, .ref 100), (1, .int x1), (2, .int j2)] [] S R _
        exact u_ret rfl rfl ⟨rfl, rfl, hD⟩
      · have hD := hD.2 h1
        show u_P L xs m d m_X12_nursesGo 40 [(0, .ref 100), (1, .int x1), (2, .int j2)] [] S R _
        refine u_st rfl (fun _ => rfl) ?_
        refine u_st rfl (fun _ => rfl) ?_
        show u_P L xs m d m_X12_nursesGo 42 [(0, .ref 100), (1, .int x1), (2, .int j2)] [.int x1, .ref 100] S R _
        refine u_cv (rest := []) rfl (by decide) mt_X12_isWell v_tyM rfl rfl rfl (Nat.le_of_ble_eq_true rfl) (Nat.le_of_ble_eq_true rfl) (Nat.le_of_ble_eq_true rfl) (fun d' => c_X12_isWell L xs m d' x1 S R) ?_
        rintro _ _ _ ⟨_, rfl, rfl, rfl, rfl⟩
        show u_P L xs m d m_X12_nursesGo 45 [(0, .ref 100), (1, .int x1), (2, .int j2)] [.int (f_X12_isWell x1 S)] S R _
        refine u_if_eq rfl (fun h2 => ?_) (fun h2 => ?_)
        · have hD := hD.1 h2
          show u_P L xs m d m_X12_nursesGo 116 [(0, .ref 100), (1, .int x1), (2, .int j2)] [] S R _
          refine u_st rfl (fun _ => rfl) ?_
          refine u_st rfl (fun _ => rfl) ?_
          refine u_lc (b := [(0, .ref 100), (1, .int (x1 + (Int32.ofInt 1))), (2, .int j2)]) (show ([1, 0, 2] : List Nat).Nodup by decide) (show ([0, 1, 2] : List Nat).Nodup by decide) (fun i => match i with | 0 => rfl | 1 => rfl | 2 => rfl | _ + 3 => rfl) ?_
          exact (ih m hm).2.2 d j2 (x1 + (Int32.ofInt 1)) S hD
        · have hD := hD.2 h2
          show u_P L xs m d m_X12_nursesGo 48 [(0, .ref 100), (1, .int x1), (2, .int j2)] [] S R _
          refine u_st rfl (fun _ => rfl) ?_
          refine u_st rfl (fun _ => rfl) ?_
          show u_P L xs m d m_X12_nursesGo 50 [(0, .ref 100), (1, .int x1), (2, .int j2)] [.int x1, .ref 100] S R _
          refine u_cv (rest := []) rfl (by decide) mt_X12_manyIn v_tyM rfl rfl rfl (Nat.le_of_ble_eq_true rfl) (Nat.le_of_ble_eq_true rfl) (Nat.le_of_ble_eq_true rfl) (fun d' => c_X12_manyIn L xs m d' x1 S R) ?_
          rintro _ _ _ ⟨_, rfl, rfl, rfl, rfl⟩
          show u_P L xs m d m_X12_nursesGo 53 [(0, .ref 100), (1, .int x1), (2, .int j2)] [.int (f_X12_manyIn x1 S)] S R _
          refine u_if_ne rfl (fun h3 => ?_) (fun h3 => ?_)
          · have hD := hD.1 h3
            show u_P L xs m d m_X12_nursesGo 59 [(0, .ref 100), (1, .int x1), (2, .int j2)] [] S R _
            refine u_st rfl (fun _ => rfl) ?_
            refine u_st rfl (fun _ => rfl) ?_
            show u_P L xs m d m_X12_nursesGo 61 [(0, .ref 100), (1, .int x1), (2, .int j2)] [.ref 100, .ref 100] S R _
            refine u_getr rfl v_tyM rfl ?_
            refine u_st rfl (fun _ => rfl) ?_
            show u_P L xs m d m_X12_nursesGo 65 [(0, .ref 100), (1, .int x1), (2, .int j2)] [.int x1, .ref 126, .ref 100] S R _
            refine u_ialdE (v := S 125 x1.toInt.toNat) rfl rfl rfl (fun b41 b42 => ?_)
            have hD := hD b41 b42
            show u_P L xs m d m_X12_nursesGo 66 [(0, .ref 100), (1, .int x1), (2, .int j2)] [.int (S 125 x1.toInt.toNat), .ref 100] S R _
            refine u_st rfl (fun _ => rfl) ?_
            show u_P L xs m d m_X12_nursesGo 67 [(0, .ref 100), (1, .int x1), (2, .int j2)] [.int x1, .int (S 125 x1.toInt.toNat), .ref 100] S R _
            refine u_cv (rest := []) rfl (by decide) mt_X12_falling v_tyM rfl rfl rfl (Nat.le_of_ble_eq_true rfl) (Nat.le_of_ble_eq_true rfl) (Nat.le_of_ble_eq_true rfl) (fun d' => c_X12_falling L xs m d' (S 125 x1.toInt.toNat) x1 S R) ?_
            rintro _ _ _ ⟨_, rfl, rfl, rfl, rfl⟩
            refine u_st rfl (fun _ => rfl) ?_
            refine u_st rfl (fun _ => rfl) ?_
            show u_P L xs m d m_X12_nursesGo 72 [(2, .int (f_X12_falling (S 125 x1.toInt.toNat) x1 S)), (0, .ref 100), (1, .int x1)] [.ref 100] (g_X12_falling (S 125 x1.toInt.toNat) x1 S) R _
            refine u_cv (rest := []) rfl (by decide) mt_X12_draw v_tyM rfl rfl rfl (Nat.le_of_ble_eq_true rfl) (Nat.le_of_ble_eq_true rfl) (Nat.le_of_ble_eq_true rfl) (fun d' => c_X12_draw L xs m d' (g_X12_falling (S 125 x1.toInt.toNat) x1 S) R) ?_
            rintro _ _ _ ⟨_, rfl, rfl, rfl, rfl⟩
            refine u_st rfl (fun _ => rfl) ?_
            show u_P L xs m d m_X12_nursesGo 76 [(2, .int (f_X12_falling (S 125 x1.toInt.toNat) x1 S)), (0, .ref 100), (1, .int x1)] [.int (f_X12_falling (S 125 x1.toInt.toNat) x1 S), .int (f_X12_draw (g_X12_falling (S 125 x1.toInt.toNat) x1 S))] (g_X12_draw (g_X12_falling (S 125 x1.toInt.toNat) x1 S)) R _
            refine u_ic_lt rfl (fun h5 => ?_) (fun h5 => ?_)
            · have hD := hD.1 h5
              show u_P L xs m d m_X12_nursesGo 82 [(2, .int (f_X12_falling (S 125 x1.toInt.toNat) x1 S)), (0, .ref 100), (1, .int x1)] [] (g_X12_draw (g_X12_falling (S 125 x1.toInt.toNat) x1 S)) R _
              refine u_st rfl (fun _ => rfl) ?_
              show u_P L xs m d m_X12_nursesGo 83 [(2, .int (f_X12_falling (S 125 x1.toInt.toNat) x1 S)), (0, .ref 100), (1, .int x1)] [.ref 100] (g_X12_draw (g_X12_falling (S 125 x1.toInt.toNat) x1 S)) R _
              refine u_getr rfl v_tyM rfl ?_
              refine u_st rfl (fun _ => rfl) ?_
              show u_P L xs m d m_X12_nursesGo 87 [(2, .int (f_X12_falling (S 125 x1.toInt.toNat) x1 S)), (0, .ref 100), (1, .int x1)] [.ref 100, .ref 132] (g_X12_draw (g_X12_falling (S 125 x1.toInt.toNat) x1 S)) R _
              refine u_getr rfl v_tyM rfl ?_
              refine u_st rfl (fun _ => rfl) ?_
              show u_P L xs m d m_X12_nursesGo 91 [(2, .int (f_X12_falling (S 125 x1.toInt.toNat) x1 S)), (0, .ref 100), (1, .int x1)] [.int x1, .ref 126, .ref 132] (g_X12_draw (g_X12_falling (S 125 x1.toInt.toNat) x1 S)) R _
              refine u_ialdE (v := (g_X12_draw (g_X12_falling (S 125 x1.toInt.toNat) x1 S)) 125 x1.toInt.toNat) rfl rfl rfl (fun b61 b62 => ?_)
              have hD := hD b61 b62
              show u_P L xs m d m_X12_nursesGo 92 [(2, .int (f_X12_falling (S 125 x1.toInt.toNat) x1 S)), (0, .ref 100), (1, .int x1)] [.int ((g_X12_draw (g_X12_falling (S 125 x1.toInt.toNat) x1 S)) 125 x1.toInt.toNat), .ref 132] (g_X12_draw (g_X12_falling (S 125 x1.toInt.toNat) x1 S)) R _
              refine u_st rfl (fun _ => rfl) ?_
              show u_P L xs m d m_X12_nursesGo 93 [(2, .int (f_X12_falling (S 125 x1.toInt.toNat) x1 S)), (0, .ref 100), (1, .int x1)] [.ref 100, .int ((g_X12_draw (g_X12_falling (S 125 x1.toInt.toNat) x1 S)) 125 x1.toInt.toNat), .ref 132] (g_X12_draw (g_X12_falling (S 125 x1.toInt.toNat) x1 S)) R _
              refine u_getr rfl v_tyM rfl ?_
              refine u_st rfl (fun _ => rfl) ?_
              show u_P L xs m d m_X12_nursesGo 97 [(2, .int (f_X12_falling (S 125 x1.toInt.toNat) x1 S)), (0, .ref 100), (1, .int x1)] [.ref 100, .ref 131, .int ((g_X12_draw (g_X12_falling (S 125 x1.toInt.toNat) x1 S)) 125 x1.toInt.toNat), .ref 132] (g_X12_draw (g_X12_falling (S 125 x1.toInt.toNat) x1 S)) R _
              refine u_getr rfl v_tyM rfl ?_
              refine u_st rfl (fun _ => rfl) ?_
              show u_P L xs m d m_X12_nursesGo 101 [(2, .int (f_X12_falling (S 125 x1.toInt.toNat) x1 S)), (0, .ref 100), (1, .int x1)] [.int x1, .ref 126, .ref 131, .int ((g_X12_draw (g_X12_falling (S 125 x1.toInt.toNat) x1 S)) 125 x1.toInt.toNat), .ref 132] (g_X12_draw (g_X12_falling (S 125 x1.toInt.toNat) x1 S)) R _
              refine u_ialdE (v := (g_X12_draw (g_X12_falling (S 125 x1.toInt.toNat) x1 S)) 125 x1.toInt.toNat) rfl rfl rfl (fun b71 b72 => ?_)
              have hD := hD b71 b72
              show u_P L xs m d m_X12_nursesGo 102 [(2, .int (f_X12_falling (S 125 x1.toInt.toNat) x1 S)), (0, .ref 100), (1, .int x1)] [.int ((g_X12_draw (g_X12_falling (S 125 x1.toInt.toNat) x1 S)) 125 x1.toInt.toNat), .ref 131, .int ((g_X12_draw (g_X12_falling (S 125 x1.toInt.toNat) x1 S)) 125 x1.toInt.toNat), .ref 132] (g_X12_draw (g_X12_falling (S 125 x1.toInt.toNat) x1 S)) R _
              refine u_ialdE (v := (g_X12_draw (g_X12_falling (S 125 x1.toInt.toNat) x1 S)) 130 (((g_X12_draw (g_X12_falling (S 125 x1.toInt.toNat) x1 S)) 125 x1.toInt.toNat).toInt.toNat)) rfl rfl rfl (fun b81 b82 => ?_)
              have hD := hD b81 b82
              show u_P L xs m d m_X12_nursesGo 103 [(2, .int (f_X12_falling (S 125 x1.toInt.toNat) x1 S)), (0, .ref 100), (1, .int x1)] [.int ((g_X12_draw (g_X12_falling (S 125 x1.toInt.toNat) x1 S)) 130 (((g_X12_draw (g_X12_falling (S 125 x1.toInt.toNat) x1 S)) 125 x1.toInt.toNat).toInt.toNat)), .int ((g_X12_draw (g_X12_falling (S 125 x1.toInt.toNat) x1 S)) 125 x1.toInt.toNat), .ref 132] (g_X12_draw (g_X12_falling (S 125 x1.toInt.toNat) x1 S)) R _
              refine u_st rfl (fun _ => rfl) ?_
              refine u_st rfl (fun _ => rfl) ?_
              show u_P L xs m d m_X12_nursesGo 105 [(2, .int (f_X12_falling (S 125 x1.toInt.toNat) x1 S)), (0, .ref 100), (1, .int x1)] [.int (((g_X12_draw (g_X12_falling (S 125 x1.toInt.toNat) x1 S)) 130 (((g_X12_draw (g_X12_falling (S 125 x1.toInt.toNat) x1 S)) 125 x1.toInt.toNat).toInt.toNat)) + (Int32.ofInt 1)), .int ((g_X12_draw (g_X12_falling (S 125 x1.toInt.toNat) x1 S)) 125 x1.toInt.toNat), .ref 132] (g_X12_draw (g_X12_falling (S 125 x1.toInt.toNat) x1 S)) R _
              refine u_iast rfl rfl (fun b91 b92 => ?_)
              have hD := hD b91 b92
              show u_P L xs m d m_X12_nursesGo 106 [(2, .int (f_X12_falling (S 125 x1.toInt.toNat) x1 S)), (0, .ref 100), (1, .int x1)] [] (z_s (g_X12_draw (g_X12_falling (S 125 x1.toInt.toNat) x1 S)) 131 (((g_X12_draw (g_X12_falling (S 125 x1.toInt.toNat) x1 S)) 125 x1.toInt.toNat).toInt.toNat) (((g_X12_draw (g_X12_falling (S 125 x1.toInt.toNat) x1 S)) 130 (((g_X12_draw (g_X12_falling (S 125 x1.toInt.toNat) x1 S)) 125 x1.toInt.toNat).toInt.toNat)) + (Int32.ofInt 1))) R _
              refine u_st rfl (fun _ => rfl) ?_
              refine u_st rfl (fun _ => rfl) ?_
              show u_P L xs m d m_X12_nursesGo 108 [(2, .int (f_X12_falling (S 125 x1.toInt.toNat) x1 S)), (0, .ref 100), (1, .int x1)] [.ref 100, .ref 100] (z_s (g_X12_draw (g_X12_falling (S 125 x1.toInt.toNat) x1 S)) 131 (((g_X12_draw (g_X12_falling (S 125 x1.toInt.toNat) x1 S)) 125 x1.toInt.toNat).toInt.toNat) (((g_X12_draw (g_X12_falling (S 125 x1.toInt.toNat) x1 S)) 130 (((g_X12_draw (g_X12_falling (S 125 x1.toInt.toNat) x1 S)) 125 x1.toInt.toNat).toInt.toNat)) + (Int32.ofInt 1))) R _
              refine u_getE (v := (g_X12_draw (g_X12_falling (S 125 x1.toInt.toNat) x1 S)) 99 73) rfl v_tyM rfl (z_sn (fun h => absurd h.1 (by decide))) ?_
              refine u_st rfl (fun _ => rfl) ?_
              refine u_st rfl (fun _ => rfl) ?_
              show u_P L xs m d m_X12_nursesGo 113 [(2, .int (f_X12_falling (S 125 x1.toInt.toNat) x1 S)), (0, .ref 100), (1, .int x1)] [.int (((g_X12_draw (g_X12_falling (S 125 x1.toInt.toNat) x1 S)) 99 73) + (Int32.ofInt 1)), .ref 100] (z_s (g_X12_draw (g_X12_falling (S 125 x1.toInt.toNat) x1 S)) 131 (((g_X12_draw (g_X12_falling (S 125 x1.toInt.toNat) x1 S)) 125 x1.toInt.toNat).toInt.toNat) (((g_X12_draw (g_X12_falling (S 125 x1.toInt.toNat) x1 S)) 130 (((g_X12_draw (g_X12_falling (S 125 x1.toInt.toNat) x1 S)) 125 x1.toInt.toNat).toInt.toNat)) + (Int32.ofInt 1))) R _
              refine u_put rfl v_tyM rfl ?_
              refine u_st rfl (fun _ => rfl) ?_
              refine u_st rfl (fun _ => rfl) ?_
              refine u_lc (b := [(0, .ref 100), (1, .int (x1 + (Int32.ofInt 1))), (2, .int (f_X12_falling (S 125 x1.toInt.toNat) x1 S))]) (show ([1, 2, 0] : List Nat).Nodup by decide) (show ([0, 1, 2] : List Nat).Nodup by decide) (fun i => match i with | 0 => rfl | 1 => rfl | 2 => rfl | _ + 3 => rfl) ?_
              exact (ih m hm).2.2 d (f_X12_falling (S 125 x1.toInt.toNat) x1 S) (x1 + (Int32.ofInt 1)) (z_s (z_s (g_X12_draw (g_X12_falling (S 125 x1.toInt.toNat) x1 S)) 131 (((g_X12_draw (g_X12_falling (S 125 x1.toInt.toNat) x1 S)) 125 x1.toInt.toNat).toInt.toNat) (((g_X12_draw (g_X12_falling (S 125 x1.toInt.toNat) x1 S)) 130 (((g_X12_draw (g_X12_falling (S 125 x1.toInt.toNat) x1 S)) 125 x1.toInt.toNat).toInt.toNat)) + (Int32.ofInt 1))) 99 73 (((g_X12_draw (g_X12_falling (S 125 x1.toInt.toNat) x1 S)) 99 73) + (Int32.ofInt 1))) hD
            · have hD := hD.2 h5
              show u_P L xs m d m_X12_nursesGo 79 [(2, .int (f_X12_falling (S 125 x1.toInt.toNat) x1 S)), (0, .ref 100), (1, .int x1)] [] (g_X12_draw (g_X12_falling (S 125 x1.toInt.toNat) x1 S)) R _
              refine u_st rfl (fun _ => rfl) ?_
              refine u_st rfl (fun _ => rfl) ?_
              refine u_st rfl (fun _ => rfl) ?_
              refine u_lc (b := [(0, .ref 100), (1, .int (x1 + (Int32.ofInt 1))), (2, .int (f_X12_falling (S 125 x1.toInt.toNat) x1 S))]) (show ([1, 2, 0] : List Nat).Nodup by decide) (show ([0, 1, 2] : List Nat).Nodup by decide) (fun i => match i with | 0 => rfl | 1 => rfl | 2 => rfl | _ + 3 => rfl) ?_
              exact (ih m hm).2.2 d (f_X12_falling (S 125 x1.toInt.toNat) x1 S) (x1 + (Int32.ofInt 1)) (g_X12_draw (g_X12_falling (S 125 x1.toInt.toNat) x1 S)) hD
          · have hD := hD.2 h3
            show u_P L xs m d m_X12_nursesGo 56 [(0, .ref 100), (1, .int x1), (2, .int j2)] [] S R _
            refine u_st rfl (fun _ => rfl) ?_
            refine u_st rfl (fun _ => rfl) ?_
            refine u_st rfl (fun _ => rfl) ?_
            refine u_lc (b := [(0, .ref 100), (1, .int (x1 + (Int32.ofInt 1))), (2, .int j2)]) (show ([1, 0, 2] : List Nat).Nodup by decide) (show ([0, 1, 2] : List Nat).Nodup by decide) (fun i => match i with | 0 => rfl | 1 => rfl | 2 => rfl | _ + 3 => rfl) ?_
            exact (ih m hm).2.2 d j2 (x1 + (Int32.ofInt 1)) S hD
set_option maxRecDepth 4000 in
theorem w_X12_nursesGo (L : Nat) (xs : Nat → Int32) {R : v_Rf}  (H2 : Int32 → v_Sf → Prop) (H34 : Int32 → v_Sf → Prop) (K : v_Sf → Prop) (k2 : ∀ (x1 : Int32) (S : v_Sf), H2 x1 S → D_X12_nursesGo_2 H2 H34 K x1 S) (k34 : ∀ (x1 : Int32) (S : v_Sf), H34 x1 S → D_X12_nursesGo_34 H2 H34 K x1 S) (n d : Nat) (S : v_Sf) (hD : D_X12_nursesGo H2 H34 K S) : u_P L xs n d m_X12_nursesGo 0 (lv_args 0 [.ref 100]) [] S R (z_V R K) := by
  unfold D_X12_nursesGo at hD
  show u_P L xs n d m_X12_nursesGo 0 [(0, .ref 100)] [] S R _
  refine u_st rfl (fun _ => rfl) ?_
  refine u_st rfl (fun _ => rfl) ?_
  refine u_lc (b := [(0, .ref 100), (1, .int (Int32.ofInt 0))]) (show ([1, 0] : List Nat).Nodup by decide) (show ([0, 1] : List Nat).Nodup by decide) (fun i => match i with | 0 => rfl | 1 => rfl | _ + 2 => rfl) ?_
  exact (hd_X12_nursesGo L xs H2 H34 K k2 k34 n).1 d (Int32.ofInt 0) S hD
noncomputable def r_X12_nursesGo_34  : Nat → Nat → v_Sf → v_Sf
  | 0, k34, S => S
  | r + 1, k34, S => (if (f_X12_isWell (z_i k34) S) = 0 then r_X12_nursesGo_34 r (k34 + 1) S else (if ¬ (f_X12_manyIn (z_i k34) S) = 0 then (if (f_X12_draw (g_X12_falling (S 125 (z_i k34).toInt.toNat) (z_i k34) S)) < (f_X12_falling (S 125 (z_i k34).toInt.toNat) (z_i k34) S) then r_X12_nursesGo_34 r (k34 + 1) (z_s (z_s (g_X12_draw (g_X12_falling (S 125 (z_i k34).toInt.toNat) (z_i k34) S)) 131 (((g_X12_draw (g_X12_falling (S 125 (z_i k34).toInt.toNat) (z_i k34) S)) 125 (z_i k34).toInt.toNat).toInt.toNat) (((g_X12_draw (g_X12_falling (S 125 (z_i k34).toInt.toNat) (z_i k34) S)) 130 (((g_X12_draw (g_X12_falling (S 125 (z_i k34).toInt.toNat) (z_i k34) S)) 125 (z_i k34).toInt.toNat).toInt.toNat)) + (Int32.ofInt 1))) 99 73 (((g_X12_draw (g_X12_falling (S 125 (z_i k34).toInt.toNat) (z_i k34) S)) 99 73) + (Int32.ofInt 1))) else r_X12_nursesGo_34 r (k34 + 1) (g_X12_draw (g_X12_falling (S 125 (z_i k34).toInt.toNat) (z_i k34) S))) else r_X12_nursesGo_34 r (k34 + 1) S))
noncomputable def r_X12_nursesGo_2  : Nat → Nat → v_Sf → v_Sf
  | 0, k2, S => r_X12_nursesGo_34 (6 - 0) 0 S
  | r + 1, k2, S => (if (S 131 (z_i k2).toInt.toNat) ≤ 0 then r_X12_nursesGo_2 r (k2 + 1) S else r_X12_nursesGo_2 r (k2 + 1) (z_s S 131 (z_i k2).toInt.toNat ((S 131 (z_i k2).toInt.toNat) - (Int32.ofInt 1))))
noncomputable def F_X12_nursesGo  (S : v_Sf) : v_Sf := r_X12_nursesGo_2 (5 - 0) 0 S
noncomputable def g_X12_nursesGo  (S : v_Sf) : v_Sf := F_X12_nursesGo  S
theorem c_X12_nursesGo (L : Nat) (xs : Nat → Int32) (n d : Nat)  (S : v_Sf) (R : v_Rf) : u_P L xs n d m_X12_nursesGo 0 (lv_args 0 [.ref 100]) [] S R (z_V R (fun S1 => g_X12_nursesGo  S = S1)) := by
  refine w_X12_nursesGo L xs  (fun y1 T => ∃ (k2 : Nat), k2 ≤ 5 ∧ z_i k2 = y1 ∧ r_X12_nursesGo_2 (5 - k2) k2 T = F_X12_nursesGo  S) (fun y1 T => ∃ (k34 : Nat), k34 ≤ 6 ∧ z_i k34 = y1 ∧ r_X12_nursesGo_34 (6 - k34) k34 T = F_X12_nursesGo  S) (fun S1 => g_X12_nursesGo  S = S1) ?_ ?_ n d S ?_
  · rintro _ S1 ⟨k2, hkk, rfl, e⟩
    unfold D_X12_nursesGo_2
    rcases Nat.lt_or_ge k2 (5) with hk | hk
    · rw [show 5 - k2 = (5 - (k2 + 1)) + 1 by omega, r_X12_nursesGo_2] at e
      refine ⟨fun q1 => ?_, fun q1 => ?_⟩
      · exact absurd hk (Nat.not_lt.mpr (z_leB2 (B := 5) q1 (by decide) (by omega)))
      · intro _ _
        refine ⟨fun q2 => ?_, fun q2 => ?_⟩
        · rw [if_pos q2] at e
          exact ⟨(k2 + 1), by omega, (z_i1 k2).symm, e⟩
        · intro _ _
          intro _ _
          rw [if_neg q2] at e
          exact ⟨(k2 + 1), by omega, (z_i1 k2).symm, e⟩
    · rw [show 5 - k2 = 0 by omega, r_X12_nursesGo_2] at e
      refine ⟨fun q3 => ?_, fun q3 => ?_⟩
      · exact ⟨0, by omega, rfl, e⟩
      · exact absurd hk (Nat.not_le.mpr (z_ltB2 (B := 5) q3 (by decide) (by omega)))
  · rintro _ S1 ⟨k34, hkk, rfl, e⟩
    unfold D_X12_nursesGo_34
    rcases Nat.lt_or_ge k34 (6) with hk | hk
    · rw [show 6 - k34 = (6 - (k34 + 1)) + 1 by omega, r_X12_nursesGo_34] at e
      refine ⟨fun q4 => ?_, fun q4 => ?_⟩
      · exact absurd hk (Nat.not_lt.mpr (z_leB2 (B := 6) q4 (by decide) (by omega)))
      · refine ⟨fun q5 => ?_, fun q5 => ?_⟩
        · rw [if_pos q5] at e
          exact ⟨(k34 + 1), by omega, (z_i1 k34).symm, e⟩
        · refine ⟨fun q6 => ?_, fun q6 => ?_⟩
          · intro _ _
            refine ⟨fun q7 => ?_, fun q7 => ?_⟩
            · intro _ _
              intro _ _
              intro _ _
              intro _ _
              rw [if_neg q5, if_pos q6, if_pos q7] at e
              exact ⟨(k34 + 1), by omega, (z_i1 k34).symm, e⟩
            · rw [if_neg q5, if_pos q6, if_neg q7] at e
              exact ⟨(k34 + 1), by omega, (z_i1 k34).symm, e⟩
          · rw [if_neg q5, if_neg q6] at e
            exact ⟨(k34 + 1), by omega, (z_i1 k34).symm, e⟩
    · rw [show 6 - k34 = 0 by omega, r_X12_nursesGo_34] at e
      refine ⟨fun q8 => ?_, fun q8 => ?_⟩
      · exact e.symm
      · exact absurd hk (Nat.not_le.mpr (z_ltB2 (B := 6) q8 (by decide) (by omega)))
  · unfold D_X12_nursesGo
    have e : r_X12_nursesGo_2 (5 - 0) 0 S = F_X12_nursesGo  S := by rw [F_X12_nursesGo]
    exact ⟨0, by omega, rfl, e⟩
noncomputable abbrev m_X12_judges : g_M := (g_cn 12, yX12_judges, cX12_judges, 3, none, g_look2 ttX12_judges)
set_option maxRecDepth 20000 in
theorem mt_X12_judges : g_mt 236 = some m_X12_judges := rfl
noncomputable def D_X12_judges_2  (H2 : Int32 → v_Sf → Prop) (H12 : Int32 → Int32 → v_Sf → Prop) (K : v_Sf → Prop) (x1 : Int32) (S : v_Sf) : Prop := (((S 99 17) ≤ x1 → K S) ∧ (¬ ((S 99 17) ≤ x1) → H12 x1 (Int32.ofInt 0) S))
noncomputable def D_X12_judges_12  (H2 : Int32 → v_Sf → Prop) (H12 : Int32 → Int32 → v_Sf → Prop) (K : v_Sf → Prop) (x1 : Int32) (x2 : Int32) (S : v_Sf) : Prop := (((Int32.ofInt 6) ≤ x2 → H2 (x1 + (Int32.ofInt 1)) S) ∧ (¬ ((Int32.ofInt 6) ≤ x2) → (0 ≤ ((Int32.ofInt 16) + x1).toInt → ((Int32.ofInt 16) + x1).toInt < 28 → (((f_X12_isKeptBy x1 x2 S) = 0 → (((¬ ((g_X12_isKeptBy x1 x2 S) 99 74) = 0) → K (z_s (g_X12_isKeptBy x1 x2 S) 99 74 (((g_X12_isKeptBy x1 x2 S) 99 74) + (Int32.ofInt 1)))) ∧ (¬ (¬ ((g_X12_isKeptBy x1 x2 S) 99 74) = 0) → K (z_s (z_s (z_s (g_X12_isKeptBy x1 x2 S) 99 75 x1) 99 76 x2) 99 74 (((g_X12_isKeptBy x1 x2 S) 99 74) + (Int32.ofInt 1)))))) ∧ (¬ ((f_X12_isKeptBy x1 x2 S) = 0) → H12 x1 (x2 + (Int32.ofInt 1)) (g_X12_isKeptBy x1 x2 S))))))
noncomputable def D_X12_judges  (H2 : Int32 → v_Sf → Prop) (H12 : Int32 → Int32 → v_Sf → Prop) (K : v_Sf → Prop) (S : v_Sf) : Prop := H2 (Int32.ofInt 0) S
set_option maxRecDepth 4000 in
theorem hd_X12_judges (L : Nat) (xs : Nat → Int32) {R : v_Rf}  (H2 : Int32 → v_Sf → Prop) (H12 : Int32 → Int32 → v_Sf → Prop) (K : v_Sf → Prop) (k2 : ∀ (x1 : Int32) (S : v_Sf), H2 x1 S → D_X12_judges_2 H2 H12 K x1 S) (k12 : ∀ (x1 : Int32) (x2 : Int32) (S : v_Sf), H12 x1 x2 S → D_X12_judges_12 H2 H12 K x1 x2 S) : ∀ n, (∀ (d : Nat) (x1 : Int32) (S : v_Sf), H2 x1 S → u_P L xs n d m_X12_judges 2 [(0, .ref 100), (1, .int x1)] [] S R (z_V R K)) ∧ (∀ (d : Nat) (j2 : Int32) (x1 : Int32) (S : v_Sf), H2 x1 S → u_P L xs n d m_X12_judges 2 [(0, .ref 100), (1, .int x1), (2, .int j2)] [] S R (z_V R K)) ∧ (∀ (d : Nat) (x1 : Int32) (x2 : Int32) (S : v_Sf), H12 x1 x2 S → u_P L xs n d m_X12_judges 12 [(0, .ref 100), (1, .int x1), (2, .int x2)] [] S R (z_V R K)) := by
  intro n
  induction n using Nat.strongRecOn with
  | ind n ih =>
    refine ⟨?_, ?_, ?_⟩
    · intro d x1 S hD
      have hD := k2 x1 S hD
      unfold D_X12_judges_2 at hD
      show u_P L xs n d m_X12_judges 2 [(0, .ref 100), (1, .int x1)] [] S R _
      refine u_st1 rfl (fun _ => rfl) (fun m hm => ?_)
      refine u_st rfl (fun _ => rfl) ?_
      show u_P L xs m d m_X12_judges 4 [(0, .ref 100), (1, .int x1)] [.ref 100, .int x1] S R _
      refine u_getE (v := S 99 17) rfl v_tyM rfl rfl ?_
      show u_P L xs m d m_X12_judges 7 [(0, .ref 100), (1, .int x1)] [.int (S 99 17), .int x1] S R _
      refine u_ic_ge rfl (fun h1 => ?_) (fun h1 => ?_)
      · have hD := hD.1 h1
        show u_P L xs m d m_X12_judges 70 [(0, .ref 100), (1, .int x1)] [] S R _
        exact u_ret rfl rfl ⟨rfl, rfl, hD⟩
      · have hD := hD.2 h1
        show u_P L xs m d m_X12_judges 10 [(0, .ref 100), (1, .int x1)] [] S R _
        refine u_st rfl (fun _ => rfl) ?_
        refine u_st rfl (fun _ => rfl) ?_
        refine u_lc (b := [(0, .ref 100), (1, .int x1), (2, .int (Int32.ofInt 0))]) (show ([2, 0, 1] : List Nat).Nodup by decide) (show ([0, 1, 2] : List Nat).Nodup by decide) (fun i => match i with | 0 => rfl | 1 => rfl | 2 => rfl | _ + 3 => rfl) ?_
        exact (ih m hm).2.2 d x1 (Int32.ofInt 0) S hD
    · intro d j2 x1 S hD
      have hD := k2 x1 S hD
      unfold D_X12_judges_2 at hD
      show u_P L xs n d m_X12_judges 2 [(0, .ref 100), (1, .int x1), (2, .int j2)] [] S R _
      refine u_st1 rfl (fun _ => rfl) (fun m hm => ?_)
      refine u_st rfl (fun _ => rfl) ?_
      show u_P L xs m d m_X12_judges 4 [(0, .ref 100), (1, .int x1), (2, .int j2)] [.ref 100, .int x1] S R _
      refine u_getE (v := S 99 17) rfl v_tyM rfl rfl ?_
      show u_P L xs m d m_X12_judges 7 [(0, .ref 100), (1, .int x1), (2, .int j2)] [.int (S 99 17), .int x1] S R _
      refine u_ic_ge rfl (fun h1 => ?_) (fun h1 => ?_)
      · have hD := hD.1 h1
        show u_P L xs m d m_X12_judges 70 [(0, .ref 100), (1, .int x1), (2, .int j2)] [] S R _
        exact u_ret rfl rfl ⟨rfl, rfl, hD⟩
      · have hD := hD.2 h1
        show u_P L xs m d m_X12_judges 10 [(0, .ref 100), (1, .int x1), (2, .int j2)] [] S R _
        refine u_st rfl (fun _ => rfl) ?_
        refine u_st rfl (fun _ => rfl) ?_
        refine u_lc (b := [(0, .ref 100), (1, .int x1), (2, .int (Int32.ofInt 0))]) (show ([2, 0, 1] : List Nat).Nodup by decide) (show ([0, 1, 2] : List Nat).Nodup by decide) (fun i => match i with | 0 => rfl | 1 => rfl | 2 => rfl | _ + 3 => rfl) ?_
        exact (ih m hm).2.2 d x1 (Int32.ofInt 0) S hD
    · intro d x1 x2 S hD
      have hD := k12 x1 x2 S hD
      unfold D_X12_judges_12 at hD
      show u_P L xs n d m_X12_judges 12 [(0, .ref 100), (1, .int x1), (2, .int x2)] [] S R _
      refine u_st1 rfl (fun _ => rfl) (fun m hm => ?_)
      refine u_st rfl (fun _ => rfl) ?_
      show u_P L xs m d m_X12_judges 15 [(0, .ref 100), (1, .int x1), (2, .int x2)] [.int (Int32.ofInt 6), .int x2] S R _
      refine u_ic_ge rfl (fun h1 => ?_) (fun h1 => ?_)
      · have hD := hD.1 h1
        show u_P L xs m d m_X12_judges 64 [(0, .ref 100), (1, .int x1), (2, .int x2)] [] S R _
        refine u_st rfl (fun _ => rfl) ?_
        refine u_st rfl (fun _ => rfl) ?_
        refine u_lc (b := [(0, .ref 100), (1, .int (x1 + (Int32.ofInt 1))), (2, .int x2)]) (show ([1, 0, 2] : List Nat).Nodup by decide) (show ([0, 1, 2] : List Nat).Nodup by decide) (fun i => match i with | 0 => rfl | 1 => rfl | 2 => rfl | _ + 3 => rfl) ?_
        exact (ih m hm).2.1 d x2 (x1 + (Int32.ofInt 1)) S hD
      · have hD := hD.2 h1
        show u_P L xs m d m_X12_judges 18 [(0, .ref 100), (1, .int x1), (2, .int x2)] [] S R _
        refine u_st rfl (fun _ => rfl) ?_
        refine u_st rfl (fun _ => rfl) ?_
        refine u_st rfl (fun _ => rfl) ?_
        show u_P L xs m d m_X12_judges 21 [(0, .ref 100), (1, .int x1), (2, .int x2)] [.int x2, .int x1, .ref 100] S R _
        refine u_cv (rest := []) rfl (by decide) mt_X12_isKeptBy v_tyM rfl rfl rfl (Nat.le_of_ble_eq_true rfl) (Nat.le_of_ble_eq_true rfl) (Nat.le_of_ble_eq_true rfl) (fun d' => c_X12_isKeptBy L xs m d' x1 x2 S R) ?_
        rintro _ _ _ ⟨_, rfl, rfl, rfl, rfl, b21, b22⟩
        have hD := hD b21 b22
        show u_P L xs m d m_X12_judges 24 [(0, .ref 100), (1, .int x1), (2, .int x2)] [.int (f_X12_isKeptBy x1 x2 S)] (g_X12_isKeptBy x1 x2 S) R _
        refine u_if_eq rfl (fun h3 => ?_) (fun h3 => ?_)
        · have hD := hD.1 h3
          show u_P L xs m d m_X12_judges 30 [(0, .ref 100), (1, .int x1), (2, .int x2)] [] (g_X12_isKeptBy x1 x2 S) R _
          refine u_st rfl (fun _ => rfl) ?_
          show u_P L xs m d m_X12_judges 31 [(0, .ref 100), (1, .int x1), (2, .int x2)] [.ref 100] (g_X12_isKeptBy x1 x2 S) R _
          refine u_getE (v := (g_X12_isKeptBy x1 x2 S) 99 74) rfl v_tyM rfl rfl ?_
          show u_P L xs m d m_X12_judges 34 [(0, .ref 100), (1, .int x1), (2, .int x2)] [.int ((g_X12_isKeptBy x1 x2 S) 99 74)] (g_X12_isKeptBy x1 x2 S) R _
          refine u_if_ne rfl (fun h4 => ?_) (fun h4 => ?_)
          · have hD := hD.1 h4
            show u_P L xs m d m_X12_judges 47 [(0, .ref 100), (1, .int x1), (2, .int x2)] [] (g_X12_isKeptBy x1 x2 S) R _
            refine u_st rfl (fun _ => rfl) ?_
            refine u_st rfl (fun _ => rfl) ?_
            show u_P L xs m d m_X12_judges 49 [(0, .ref 100), (1, .int x1), (2, .int x2)] [.ref 100, .ref 100] (g_X12_isKeptBy x1 x2 S) R _
            refine u_getE (v := (g_X12_isKeptBy x1 x2 S) 99 74) rfl v_tyM rfl rfl ?_
            refine u_st rfl (fun _ => rfl) ?_
            refine u_st rfl (fun _ => rfl) ?_
            show u_P L xs m d m_X12_judges 54 [(0, .ref 100), (1, .int x1), (2, .int x2)] [.int (((g_X12_isKeptBy x1 x2 S) 99 74) + (Int32.ofInt 1)), .ref 100] (g_X12_isKeptBy x1 x2 S) R _
            refine u_put rfl v_tyM rfl ?_
            show u_P L xs m d m_X12_judges 57 [(0, .ref 100), (1, .int x1), (2, .int x2)] [] (z_s (g_X12_isKeptBy x1 x2 S) 99 74 (((g_X12_isKeptBy x1 x2 S) 99 74) + (Int32.ofInt 1))) R _
            exact u_ret rfl rfl ⟨rfl, rfl, hD⟩
          · have hD := hD.2 h4
            show u_P L xs m d m_X12_judges 37 [(0, .ref 100), (1, .int x1), (2, .int x2)] [] (g_X12_isKeptBy x1 x2 S) R _
            refine u_st rfl (fun _ => rfl) ?_
            refine u_st rfl (fun _ => rfl) ?_
            show u_P L xs m d m_X12_judges 39 [(0, .ref 100), (1, .int x1), (2, .int x2)] [.int x1, .ref 100] (g_X12_isKeptBy x1 x2 S) R _
            refine u_put rfl v_tyM rfl ?_
            refine u_st rfl (fun _ => rfl) ?_
            refine u_st rfl (fun _ => rfl) ?_
            show u_P L xs m d m_X12_judges 44 [(0, .ref 100), (1, .int x1), (2, .int x2)] [.int x2, .ref 100] (z_s (g_X12_isKeptBy x1 x2 S) 99 75 x1) R _
            refine u_put rfl v_tyM rfl ?_
            refine u_st rfl (fun _ => rfl) ?_
            refine u_st rfl (fun _ => rfl) ?_
            show u_P L xs m d m_X12_judges 49 [(0, .ref 100), (1, .int x1), (2, .int x2)] [.ref 100, .ref 100] (z_s (z_s (g_X12_isKeptBy x1 x2 S) 99 75 x1) 99 76 x2) R _
            refine u_getE (v := (g_X12_isKeptBy x1 x2 S) 99 74) rfl v_tyM rfl ((z_sn (fun h => absurd h.2 (by decide))).trans (z_sn (fun h => absurd h.2 (by decide)))) ?_
            refine u_st rfl (fun _ => rfl) ?_
            refine u_st rfl (fun _ => rfl) ?_
            show u_P L xs m d m_X12_judges 54 [(0, .ref 100), (1, .int x1), (2, .int x2)] [.int (((g_X12_isKeptBy x1 x2 S) 99 74) + (Int32.ofInt 1)), .ref 100] (z_s (z_s (g_X12_isKeptBy x1 x2 S) 99 75 x1) 99 76 x2) R _
            refine u_put rfl v_tyM rfl ?_
            show u_P L xs m d m_X12_judges 57 [(0, .ref 100), (1, .int x1), (2, .int x2)] [] (z_s (z_s (z_s (g_X12_isKeptBy x1 x2 S) 99 75 x1) 99 76 x2) 99 74 (((g_X12_isKeptBy x1 x2 S) 99 74) + (Int32.ofInt 1))) R _
            exact u_ret rfl rfl ⟨rfl, rfl, hD⟩
        · have hD := hD.2 h3
          show u_P L xs m d m_X12_judges 27 [(0, .ref 100), (1, .int x1), (2, .int x2)] [] (g_X12_isKeptBy x1 x2 S) R _
          refine u_st rfl (fun _ => rfl) ?_
          refine u_st rfl (fun _ => rfl) ?_
          refine u_st rfl (fun _ => rfl) ?_
          refine u_lc (b := [(0, .ref 100), (1, .int x1), (2, .int (x2 + (Int32.ofInt 1)))]) (show ([2, 0, 1] : List Nat).Nodup by decide) (show ([0, 1, 2] : List Nat).Nodup by decide) (fun i => match i with | 0 => rfl | 1 => rfl | 2 => rfl | _ + 3 => rfl) ?_
          exact (ih m hm).2.2 d x1 (x2 + (Int32.ofInt 1)) (g_X12_isKeptBy x1 x2 S) hD
set_option maxRecDepth 4000 in
theorem w_X12_judges (L : Nat) (xs : Nat → Int32) {R : v_Rf}  (H2 : Int32 → v_Sf → Prop) (H12 : Int32 → Int32 → v_Sf → Prop) (K : v_Sf → Prop) (k2 : ∀ (x1 : Int32) (S : v_Sf), H2 x1 S → D_X12_judges_2 H2 H12 K x1 S) (k12 : ∀ (x1 : Int32) (x2 : Int32) (S : v_Sf), H12 x1 x2 S → D_X12_judges_12 H2 H12 K x1 x2 S) (n d : Nat) (S : v_Sf) (hD : D_X12_judges H2 H12 K S) : u_P L xs n d m_X12_judges 0 (lv_args 0 [.ref 100]) [] S R (z_V R K) := by
  unfold D_X12_judges at hD
  show u_P L xs n d m_X12_judges 0 [(0, .ref 100)] [] S R _
  refine u_st rfl (fun _ => rfl) ?_
  refine u_st rfl (fun _ => rfl) ?_
  refine u_lc (b := [(0, .ref 100), (1, .int (Int32.ofInt 0))]) (show ([1, 0] : List Nat).Nodup by decide) (show ([0, 1] : List Nat).Nodup by decide) (fun i => match i with | 0 => rfl | 1 => rfl | _ + 2 => rfl) ?_
  exact (hd_X12_judges L xs H2 H12 K k2 k12 n).1 d (Int32.ofInt 0) S hD
noncomputable def r_X12_judges_12 (κ2 : v_Sf → v_Sf) (k2 : Nat) : Nat → Nat → v_Sf → v_Sf
  | 0, k12, S => κ2 S
  | r + 1, k12, S => (if (f_X12_isKeptBy (z_i k2) (z_i k12) S) = 0 then (if ¬ ((g_X12_isKeptBy (z_i k2) (z_i k12) S) 99 74) = 0 then z_s (g_X12_isKeptBy (z_i k2) (z_i k12) S) 99 74 (((g_X12_isKeptBy (z_i k2) (z_i k12) S) 99 74) + (Int32.ofInt 1)) else z_s (z_s (z_s (g_X12_isKeptBy (z_i k2) (z_i k12) S) 99 75 (z_i k2)) 99 76 (z_i k12)) 99 74 (((g_X12_isKeptBy (z_i k2) (z_i k12) S) 99 74) + (Int32.ofInt 1))) else r_X12_judges_12 κ2 k2 r (k12 + 1) (g_X12_isKeptBy (z_i k2) (z_i k12) S))
noncomputable def r_X12_judges_2  : Nat → Nat → v_Sf → v_Sf
  | 0, k2, S => S
  | r + 1, k2, S => (if (S 99 17) ≤ (z_i k2) then S else r_X12_judges_12 (fun S => r_X12_judges_2 r (k2 + 1) S) k2 (6 - 0) 0 S)
noncomputable def F_X12_judges  (S : v_Sf) : v_Sf := r_X12_judges_2 (13 - 0) 0 S
noncomputable def g_X12_judges  (S : v_Sf) : v_Sf := F_X12_judges  S
theorem c_X12_judges (L : Nat) (xs : Nat → Int32) (n d : Nat)  (S : v_Sf) (R : v_Rf) : u_P L xs n d m_X12_judges 0 (lv_args 0 [.ref 100]) [] S R (z_V R (fun S1 => g_X12_judges  S = S1)) := by
  refine w_X12_judges L xs  (fun y1 T => ∃ (k2 : Nat), k2 ≤ 12 ∧ z_i k2 = y1 ∧ r_X12_judges_2 (13 - k2) k2 T = F_X12_judges  S) (fun y1 y2 T => ∃ (k2 k12 : Nat), k12 ≤ 6 ∧ z_i k12 = y2 ∧ k2 ≤ 12 ∧ (k12 = 0 ∨ k2 < 12) ∧ z_i k2 = y1 ∧ r_X12_judges_12 (fun V => r_X12_judges_2 (13 - (k2 + 1)) (k2 + 1) V) k2 (6 - k12) k12 T = F_X12_judges  S) (fun S1 => g_X12_judges  S = S1) ?_ ?_ n d S ?_
  · rintro _ S1 ⟨k2, hkk, rfl, e⟩
    unfold D_X12_judges_2
    rcases Nat.lt_or_ge k2 (13) with hk | hk
    · rw [show 13 - k2 = (13 - (k2 + 1)) + 1 by omega, r_X12_judges_2] at e
      refine ⟨fun q1 => ?_, fun q1 => ?_⟩
      · rw [if_pos q1] at e
        exact e.symm
      · rw [if_neg q1] at e
        exact ⟨k2, 0, by omega, rfl, by omega, by omega, rfl, e⟩
    · omega
  · rintro _ _ S1 ⟨k2, k12, hkk, rfl, hk2, hz2, rfl, e⟩
    unfold D_X12_judges_12
    rcases Nat.lt_or_ge k12 (6) with hk | hk
    · rw [show 6 - k12 = (6 - (k12 + 1)) + 1 by omega, r_X12_judges_12] at e
      refine ⟨fun q2 => ?_, fun q2 => ?_⟩
      · exact absurd hk (Nat.not_lt.mpr (z_leB2 (B := 6) q2 (by decide) (by omega)))
      · intro _ hb
        have hf := z_lt12 hb (by omega)
        refine ⟨fun q3 => ?_, fun q3 => ?_⟩
        · refine ⟨fun q4 => ?_, fun q4 => ?_⟩
          · rw [if_pos q3, if_pos q4] at e
            exact e.symm
          · rw [if_pos q3, if_neg q4] at e
            exact e.symm
        · rw [if_neg q3] at e
          exact ⟨k2, (k12 + 1), by omega, (z_i1 k12).symm, by omega, by omega, rfl, e⟩
    · rw [show 6 - k12 = 0 by omega, r_X12_judges_12] at e
      refine ⟨fun q5 => ?_, fun q5 => ?_⟩
      · exact ⟨(k2 + 1), by omega, (z_i1 k2).symm, e⟩
      · exact absurd hk (Nat.not_le.mpr (z_ltB2 (B := 6) q5 (by decide) (by omega)))
  · unfold D_X12_judges
    have e : r_X12_judges_2 (13 - 0) 0 S = F_X12_judges  S := by rw [F_X12_judges]
    exact ⟨0, by omega, rfl, e⟩
noncomputable abbrev m_X12_go : g_M := (g_cn 12, yX12_go, cX12_go, 3, none, g_look2 ttX12_go)
set_option maxRecDepth 20000 in
theorem mt_X12_go : g_mt 237 = some m_X12_go := rfl
noncomputable def D_X12_go_39  (H39 : Int32 → Int32 → v_Sf → Prop) (K : v_Sf → Prop) (x1 : Int32) (x2 : Int32) (S : v_Sf) : Prop := ((x1 ≤ x2 → K S) ∧ (¬ (x1 ≤ x2) → (((Int32.ofInt 9999) ≤ (S 99 60) → K S) ∧ (¬ ((Int32.ofInt 9999) ≤ (S 99 60)) → H39 x1 (x2 + (Int32.ofInt 1)) (z_s (g_X12_judges (g_X12_nursesGo (g_X12_whistle (g_X12_breaks (g_X12_wardsGo (g_X12_weakens S)))))) 99 60 (((g_X12_judges (g_X12_nursesGo (g_X12_whistle (g_X12_breaks (g_X12_wardsGo (g_X12_weakens S)))))) 99 60) + (Int32.ofInt 1)))))))
noncomputable def D_X12_go (a : Int32) (H39 : Int32 → Int32 → v_Sf → Prop) (K : v_Sf → Prop) (S : v_Sf) : Prop := H39 a (Int32.ofInt 0) (z_s (z_s (z_s (z_s (z_s (z_s (z_s S 99 70 (Int32.ofInt 0)) 99 71 (Int32.ofInt 0)) 99 72 (Int32.ofInt 0)) 99 73 (Int32.ofInt 0)) 99 74 (Int32.ofInt 0)) 99 75 (Int32.ofInt (-2))) 99 76 (Int32.ofInt (-2)))
set_option maxRecDepth 4000 in
theorem hd_X12_go (L : Nat) (xs : Nat → Int32) {R : v_Rf} (a : Int32) (H39 : Int32 → Int32 → v_Sf → Prop) (K : v_Sf → Prop) (k39 : ∀ (x1 : Int32) (x2 : Int32) (S : v_Sf), H39 x1 x2 S → D_X12_go_39 H39 K x1 x2 S) : ∀ n, (∀ (d : Nat) (x1 : Int32) (x2 : Int32) (S : v_Sf), H39 x1 x2 S → u_P L xs n d m_X12_go 39 [(0, .ref 100), (1, .int x1), (2, .int x2)] [] S R (z_V R K)) := by
  intro n
  induction n using Nat.strongRecOn with
  | ind n ih =>
    intro d x1 x2 S hD
    have hD := k39 x1 x2 S hD
    unfold D_X12_go_39 at hD
    show u_P L xs n d m_X12_go 39 [(0, .ref 100), (1, .int x1), (2, .int x2)] [] S R _
    refine u_st1 rfl (fun _ => rfl) (fun m hm => ?_)
    refine u_st rfl (fun _ => rfl) ?_
    show u_P L xs m d m_X12_go 41 [(0, .ref 100), (1, .int x1), (2, .int x2)] [.int x1, .int x2] S R _
    refine u_ic_ge rfl (fun h1 => ?_) (fun h1 => ?_)
    · have hD := hD.1 h1
      show u_P L xs m d m_X12_go 94 [(0, .ref 100), (1, .int x1), (2, .int x2)] [] S R _
      exact u_ret rfl rfl ⟨rfl, rfl, hD⟩
    · have hD := hD.2 h1
      show u_P L xs m d m_X12_go 44 [(0, .ref 100), (1, .int x1), (2, .int x2)] [] S R _
      refine u_st rfl (fun _ => rfl) ?_
      show u_P L xs m d m_X12_go 45 [(0, .ref 100), (1, .int x1), (2, .int x2)] [.ref 100] S R _
      refine u_getE (v := S 99 60) rfl v_tyM rfl rfl ?_
      refine u_st rfl (fun _ => rfl) ?_
      show u_P L xs m d m_X12_go 51 [(0, .ref 100), (1, .int x1), (2, .int x2)] [.int (Int32.ofInt 9999), .int (S 99 60)] S R _
      refine u_ic_ge rfl (fun h2 => ?_) (fun h2 => ?_)
      · have hD := hD.1 h2
        show u_P L xs m d m_X12_go 94 [(0, .ref 100), (1, .int x1), (2, .int x2)] [] S R _
        exact u_ret rfl rfl ⟨rfl, rfl, hD⟩
      · have hD := hD.2 h2
        show u_P L xs m d m_X12_go 54 [(0, .ref 100), (1, .int x1), (2, .int x2)] [] S R _
        refine u_st rfl (fun _ => rfl) ?_
        show u_P L xs m d m_X12_go 55 [(0, .ref 100), (1, .int x1), (2, .int x2)] [.ref 100] S R _
        refine u_cv (rest := []) rfl (by decide) mt_X12_weakens v_tyM rfl rfl rfl (Nat.le_of_ble_eq_true rfl) (Nat.le_of_ble_eq_true rfl) (Nat.le_of_ble_eq_true rfl) (fun d' => c_X12_weakens L xs m d' S R) ?_
        rintro _ _ _ ⟨rfl, rfl, rfl⟩
        refine u_st rfl (fun _ => rfl) ?_
        show u_P L xs m d m_X12_go 59 [(0, .ref 100), (1, .int x1), (2, .int x2)] [.ref 100] (g_X12_weakens S) R _
        refine u_cv (rest := []) rfl (by decide) mt_X12_wardsGo v_tyM rfl rfl rfl (Nat.le_of_ble_eq_true rfl) (Nat.le_of_ble_eq_true rfl) (Nat.le_of_ble_eq_true rfl) (fun d' => c_X12_wardsGo L xs m d' (g_X12_weakens S) R) ?_
        rintro _ _ _ ⟨rfl, rfl, rfl⟩
        refine u_st rfl (fun _ => rfl) ?_
        show u_P L xs m d m_X12_go 63 [(0, .ref 100), (1, .int x1), (2, .int x2)] [.ref 100] (g_X12_wardsGo (g_X12_weakens S)) R _
        refine u_cv (rest := []) rfl (by decide) mt_X12_breaks v_tyM rfl rfl rfl (Nat.le_of_ble_eq_true rfl) (Nat.le_of_ble_eq_true rfl) (Nat.le_of_ble_eq_true rfl) (fun d' => c_X12_breaks L xs m d' (g_X12_wardsGo (g_X12_weakens S)) R) ?_
        rintro _ _ _ ⟨rfl, rfl, rfl⟩
        refine u_st rfl (fun _ => rfl) ?_
        show u_P L xs m d m_X12_go 67 [(0, .ref 100), (1, .int x1), (2, .int x2)] [.ref 100] (g_X12_breaks (g_X12_wardsGo (g_X12_weakens S))) R _
        refine u_cv (rest := []) rfl (by decide) mt_X12_whistle v_tyM rfl rfl rfl (Nat.le_of_ble_eq_true rfl) (Nat.le_of_ble_eq_true rfl) (Nat.le_of_ble_eq_true rfl) (fun d' => c_X12_whistle L xs m d' (g_X12_breaks (g_X12_wardsGo (g_X12_weakens S))) R) ?_
        rintro _ _ _ ⟨rfl, rfl, rfl⟩
        refine u_st rfl (fun _ => rfl) ?_
        show u_P L xs m d m_X12_go 71 [(0, .ref 100), (1, .int x1), (2, .int x2)] [.ref 100] (g_X12_whistle (g_X12_breaks (g_X12_wardsGo (g_X12_weakens S)))) R _
        refine u_cv (rest := []) rfl (by decide) mt_X12_nursesGo v_tyM rfl rfl rfl (Nat.le_of_ble_eq_true rfl) (Nat.le_of_ble_eq_true rfl) (Nat.le_of_ble_eq_true rfl) (fun d' => c_X12_nursesGo L xs m d' (g_X12_whistle (g_X12_breaks (g_X12_wardsGo (g_X12_weakens S)))) R) ?_
        rintro _ _ _ ⟨rfl, rfl, rfl⟩
        refine u_st rfl (fun _ => rfl) ?_
        show u_P L xs m d m_X12_go 75 [(0, .ref 100), (1, .int x1), (2, .int x2)] [.ref 100] (g_X12_nursesGo (g_X12_whistle (g_X12_breaks (g_X12_wardsGo (g_X12_weakens S))))) R _
        refine u_cv (rest := []) rfl (by decide) mt_X12_judges v_tyM rfl rfl rfl (Nat.le_of_ble_eq_true rfl) (Nat.le_of_ble_eq_true rfl) (Nat.le_of_ble_eq_true rfl) (fun d' => c_X12_judges L xs m d' (g_X12_nursesGo (g_X12_whistle (g_X12_breaks (g_X12_wardsGo (g_X12_weakens S))))) R) ?_
        rintro _ _ _ ⟨rfl, rfl, rfl⟩
        refine u_st rfl (fun _ => rfl) ?_
        refine u_st rfl (fun _ => rfl) ?_
        show u_P L xs m d m_X12_go 80 [(0, .ref 100), (1, .int x1), (2, .int x2)] [.ref 100, .ref 100] (g_X12_judges (g_X12_nursesGo (g_X12_whistle (g_X12_breaks (g_X12_wardsGo (g_X12_weakens S)))))) R _
        refine u_getE (v := (g_X12_judges (g_X12_nursesGo (g_X12_whistle (g_X12_breaks (g_X12_wardsGo (g_X12_weakens S)))))) 99 60) rfl v_tyM rfl rfl ?_
        refine u_st rfl (fun _ => rfl) ?_
        refine u_st rfl (fun _ => rfl) ?_
        show u_P L xs m d m_X12_go 85 [(0, .ref 100), (1, .int x1), (2, .int x2)] [.int (((g_X12_judges (g_X12_nursesGo (g_X12_whistle (g_X12_breaks (g_X12_wardsGo (g_X12_weakens S)))))) 99 60) + (Int32.ofInt 1)), .ref 100] (g_X12_judges (g_X12_nursesGo (g_X12_whistle (g_X12_breaks (g_X12_wardsGo (g_X12_weakens S)))))) R _
        refine u_put rfl v_tyM rfl ?_
        refine u_st rfl (fun _ => rfl) ?_
        refine u_st rfl (fun _ => rfl) ?_
        refine u_lc (b := [(0, .ref 100), (1, .int x1), (2, .int (x2 + (Int32.ofInt 1)))]) (show ([2, 0, 1] : List Nat).Nodup by decide) (show ([0, 1, 2] : List Nat).Nodup by decide) (fun i => match i with | 0 => rfl | 1 => rfl | 2 => rfl | _ + 3 => rfl) ?_
        exact (ih m hm) d x1 (x2 + (Int32.ofInt 1)) (z_s (g_X12_judges (g_X12_nursesGo (g_X12_whistle (g_X12_breaks (g_X12_wardsGo (g_X12_weakens S)))))) 99 60 (((g_X12_judges (g_X12_nursesGo (g_X12_whistle (g_X12_breaks (g_X12_wardsGo (g_X12_weakens S)))))) 99 60) + (Int32.ofInt 1))) hD
set_option maxRecDepth 4000 in
theorem w_X12_go (L : Nat) (xs : Nat → Int32) {R : v_Rf} (a : Int32) (H39 : Int32 → Int32 → v_Sf → Prop) (K : v_Sf → Prop) (k39 : ∀ (x1 : Int32) (x2 : Int32) (S : v_Sf), H39 x1 x2 S → D_X12_go_39 H39 K x1 x2 S) (n d : Nat) (S : v_Sf) (hD : D_X12_go a H39 K S) : u_P L xs n d m_X12_go 0 (lv_args 0 [.ref 100, .int a]) [] S R (z_V R K) := by
  unfold D_X12_go at hD
  show u_P L xs n d m_X12_go 0 [(0, .ref 100), (1, .int a)] [] S R _
  refine u_st rfl (fun _ => rfl) ?_
  refine u_st rfl (fun _ => rfl) ?_
  show u_P L xs n d m_X12_go 2 [(0, .ref 100), (1, .int a)] [.int (Int32.ofInt 0), .ref 100] S R _
  refine u_put rfl v_tyM rfl ?_
  refine u_st rfl (fun _ => rfl) ?_
  refine u_st rfl (fun _ => rfl) ?_
  show u_P L xs n d m_X12_go 7 [(0, .ref 100), (1, .int a)] [.int (Int32.ofInt 0), .ref 100] (z_s S 99 70 (Int32.ofInt 0)) R _
  refine u_put rfl v_tyM rfl ?_
  refine u_st rfl (fun _ => rfl) ?_
  refine u_st rfl (fun _ => rfl) ?_
  show u_P L xs n d m_X12_go 12 [(0, .ref 100), (1, .int a)] [.int (Int32.ofInt 0), .ref 100] (z_s (z_s S 99 70 (Int32.ofInt 0)) 99 71 (Int32.ofInt 0)) R _
  refine u_put rfl v_tyM rfl ?_
  refine u_st rfl (fun _ => rfl) ?_
  refine u_st rfl (fun _ => rfl) ?_
  show u_P L xs n d m_X12_go 17 [(0, .ref 100), (1, .int a)] [.int (Int32.ofInt 0), .ref 100] (z_s (z_s (z_s S 99 70 (Int32.ofInt 0)) 99 71 (Int32.ofInt 0)) 99 72 (Int32.ofInt 0)) R _
  refine u_put rfl v_tyM rfl ?_
  refine u_st rfl (fun _ => rfl) ?_
  refine u_st rfl (fun _ => rfl) ?_
  show u_P L xs n d m_X12_go 22 [(0, .ref 100), (1, .int a)] [.int (Int32.ofInt 0), .ref 100] (z_s (z_s (z_s (z_s S 99 70 (Int32.ofInt 0)) 99 71 (Int32.ofInt 0)) 99 72 (Int32.ofInt 0)) 99 73 (Int32.ofInt 0)) R _
  refine u_put rfl v_tyM rfl ?_
  refine u_st rfl (fun _ => rfl) ?_
  refine u_st rfl (fun _ => rfl) ?_
  show u_P L xs n d m_X12_go 28 [(0, .ref 100), (1, .int a)] [.int (Int32.ofInt (-2)), .ref 100] (z_s (z_s (z_s (z_s (z_s S 99 70 (Int32.ofInt 0)) 99 71 (Int32.ofInt 0)) 99 72 (Int32.ofInt 0)) 99 73 (Int32.ofInt 0)) 99 74 (Int32.ofInt 0)) R _
  refine u_put rfl v_tyM rfl ?_
  refine u_st rfl (fun _ => rfl) ?_
  refine u_st rfl (fun _ => rfl) ?_
  show u_P L xs n d m_X12_go 34 [(0, .ref 100), (1, .int a)] [.int (Int32.ofInt (-2)), .ref 100] (z_s (z_s (z_s (z_s (z_s (z_s S 99 70 (Int32.ofInt 0)) 99 71 (Int32.ofInt 0)) 99 72 (Int32.ofInt 0)) 99 73 (Int32.ofInt 0)) 99 74 (Int32.ofInt 0)) 99 75 (Int32.ofInt (-2))) R _
  refine u_put rfl v_tyM rfl ?_
  refine u_st rfl (fun _ => rfl) ?_
  refine u_st rfl (fun _ => rfl) ?_
  refine u_lc (b := [(0, .ref 100), (1, .int a), (2, .int (Int32.ofInt 0))]) (show ([2, 0, 1] : List Nat).Nodup by decide) (show ([0, 1, 2] : List Nat).Nodup by decide) (fun i => match i with | 0 => rfl | 1 => rfl | 2 => rfl | _ + 3 => rfl) ?_
  exact (hd_X12_go L xs a H39 K k39 n) d a (Int32.ofInt 0) (z_s (z_s (z_s (z_s (z_s (z_s (z_s S 99 70 (Int32.ofInt 0)) 99 71 (Int32.ofInt 0)) 99 72 (Int32.ofInt 0)) 99 73 (Int32.ofInt 0)) 99 74 (Int32.ofInt 0)) 99 75 (Int32.ofInt (-2))) 99 76 (Int32.ofInt (-2))) hD
noncomputable def r_X12_go_39 (x1 : Int32) : Nat → Nat → v_Sf → v_Sf
  | 0, k39, S => S
  | r + 1, k39, S => (if (Int32.ofInt 9999) ≤ (S 99 60) then S else r_X12_go_39 x1 r (k39 + 1) (z_s (g_X12_judges (g_X12_nursesGo (g_X12_whistle (g_X12_breaks (g_X12_wardsGo (g_X12_weakens S)))))) 99 60 (((g_X12_judges (g_X12_nursesGo (g_X12_whistle (g_X12_breaks (g_X12_wardsGo (g_X12_weakens S)))))) 99 60) + (Int32.ofInt 1))))
noncomputable def F_X12_go (a : Int32) (S : v_Sf) : v_Sf := r_X12_go_39 a (a.toInt.toNat - 0) 0 (z_s (z_s (z_s (z_s (z_s (z_s (z_s S 99 70 (Int32.ofInt 0)) 99 71 (Int32.ofInt 0)) 99 72 (Int32.ofInt 0)) 99 73 (Int32.ofInt 0)) 99 74 (Int32.ofInt 0)) 99 75 (Int32.ofInt (-2))) 99 76 (Int32.ofInt (-2)))
noncomputable def g_X12_go (a : Int32) (S : v_Sf) : v_Sf := F_X12_go a S
theorem c_X12_go (L : Nat) (xs : Nat → Int32) (n d : Nat) (a : Int32) (S : v_Sf) (R : v_Rf) : u_P L xs n d m_X12_go 0 (lv_args 0 [.ref 100, .int a]) [] S R (z_V R (fun S1 => g_X12_go a S = S1)) := by
  refine w_X12_go L xs a (fun y1 y2 T => ∃ (k39 : Nat), k39 ≤ a.toInt.toNat ∧ z_i k39 = y2 ∧ a = y1 ∧ r_X12_go_39 a (a.toInt.toNat - k39) k39 T = F_X12_go a S) (fun S1 => g_X12_go a S = S1) ?_ n d S ?_
  · rintro _ _ S1 ⟨k39, hkk, rfl, rfl, e⟩
    unfold D_X12_go_39
    rcases Nat.lt_or_ge k39 (a.toInt.toNat) with hk | hk
    · rw [show a.toInt.toNat - k39 = (a.toInt.toNat - (k39 + 1)) + 1 by omega, r_X12_go_39] at e
      refine ⟨fun q1 => ?_, fun q1 => ?_⟩
      · exact absurd hk (Nat.not_lt.mpr (z_leV q1 (by omega)))
      · refine ⟨fun q2 => ?_, fun q2 => ?_⟩
        · rw [if_pos q2] at e
          exact e.symm
        · rw [if_neg q2] at e
          exact ⟨(k39 + 1), by omega, (z_i1 k39).symm, rfl, e⟩
    · rw [show a.toInt.toNat - k39 = 0 by omega, r_X12_go_39] at e
      refine ⟨fun q3 => ?_, fun q3 => ?_⟩
      · exact e.symm
      · exact absurd hk (Nat.not_le.mpr (z_ltV q3 (by omega)))
  · unfold D_X12_go
    have e : r_X12_go_39 a (a.toInt.toNat - 0) 0 (z_s (z_s (z_s (z_s (z_s (z_s (z_s S 99 70 (Int32.ofInt 0)) 99 71 (Int32.ofInt 0)) 99 72 (Int32.ofInt 0)) 99 73 (Int32.ofInt 0)) 99 74 (Int32.ofInt 0)) 99 75 (Int32.ofInt (-2))) 99 76 (Int32.ofInt (-2))) = F_X12_go a S := by rw [F_X12_go]
    exact ⟨0, by omega, rfl, rfl, e⟩
noncomputable abbrev m_X12_months : g_M := (g_cn 12, yX12_months, cX12_months, 2, (some .int), g_look2 ttX12_months)
set_option maxRecDepth 20000 in
theorem mt_X12_months : g_mt 238 = some m_X12_months := rfl
noncomputable def f_X12_months (a : Int32) (S : v_Sf) : Int32 := (if ¬ (z_in a 1 60) = 0 then (g_X12_go a S) 99 70 else Int32.ofInt (-1))
noncomputable def g_X12_months (a : Int32) (S : v_Sf) : v_Sf := (if ¬ (z_in a 1 60) = 0 then g_X12_go a S else S)
set_option maxRecDepth 4000 in
theorem c_X12_months (L : Nat) (xs : Nat → Int32) (n d : Nat) (a : Int32) (S : v_Sf) (R : v_Rf) : u_P L xs n d m_X12_months 0 (lv_args 0 [.ref 100, .int a]) [] S R (z_Q R (fun v S1 => f_X12_months a S = v ∧ g_X12_months a S = S1)) := by
  show u_P L xs n d m_X12_months 0 [(0, .ref 100), (1, .int a)] [] S R _
  refine u_st rfl (fun _ => rfl) ?_
  refine u_st rfl (fun _ => rfl) ?_
  refine u_st rfl (fun _ => rfl) ?_
  refine u_st rfl (fun _ => rfl) ?_
  show u_P L xs n d m_X12_months 6 [(0, .ref 100), (1, .int a)] [.long (Int64.ofInt 60), .long (Int64.ofNat 1), .long a.toInt64] S R _
  refine u_cs (ac := [.long a.toInt64, .long (Int64.ofNat 1), .long (Int64.ofInt 60)]) (rest := []) rfl (by decide) mt_X12_lies (fun _ => rfl) (Nat.le_of_ble_eq_true rfl) (Nat.le_of_ble_eq_true rfl) (fun d' => z_liesC L xs n d' a (Int64.ofNat 1) (Int64.ofInt 60) (lo := 1) (hi := 60) rfl rfl S R) ?_
  rintro _ _ _ ⟨_, rfl, rfl, rfl, rfl⟩
  show u_P L xs n d m_X12_months 9 [(0, .ref 100), (1, .int a)] [.int (z_in a 1 60)] S R _
  refine u_if_ne rfl (fun h1 => ?_) (fun h1 => ?_)
  · show u_P L xs n d m_X12_months 14 [(0, .ref 100), (1, .int a)] [] S R _
    refine u_st rfl (fun _ => rfl) ?_
    refine u_st rfl (fun _ => rfl) ?_
    show u_P L xs n d m_X12_months 16 [(0, .ref 100), (1, .int a)] [.int a, .ref 100] S R _
    refine u_cv (rest := []) rfl (by decide) mt_X12_go v_tyM rfl rfl rfl (Nat.le_of_ble_eq_true rfl) (Nat.le_of_ble_eq_true rfl) (Nat.le_of_ble_eq_true rfl) (fun d' => c_X12_go L xs n d' a S R) ?_
    rintro _ _ _ ⟨rfl, rfl, rfl⟩
    refine u_st rfl (fun _ => rfl) ?_
    show u_P L xs n d m_X12_months 20 [(0, .ref 100), (1, .int a)] [.ref 100] (g_X12_go a S) R _
    refine u_getE (v := (g_X12_go a S) 99 70) rfl v_tyM rfl rfl ?_
    show u_P L xs n d m_X12_months 23 [(0, .ref 100), (1, .int a)] [.int ((g_X12_go a S) 99 70)] (g_X12_go a S) R _
    exact u_ret rfl rfl ⟨_, rfl, rfl, by rw [f_X12_months, if_pos h1], by rw [g_X12_months, if_pos h1]⟩
  · show u_P L xs n d m_X12_months 12 [(0, .ref 100), (1, .int a)] [] S R _
    refine u_st rfl (fun _ => rfl) ?_
    show u_P L xs n d m_X12_months 13 [(0, .ref 100), (1, .int a)] [.int (Int32.ofInt (-1))] S R _
    exact u_ret rfl rfl ⟨_, rfl, rfl, by rw [f_X12_months, if_neg h1], by rw [g_X12_months, if_neg h1]⟩
end PrtS42k
section PrtS42l
noncomputable abbrev m_X11_wardAt : g_M := (g_cn 11, yX11_wardAt, cX11_wardAt, 2, (some (.object "GustHome$Ward")), g_look2 ttX11_wardAt)
set_option maxRecDepth 20000 in
theorem mt_X11_wardAt : g_mt 151 = some m_X11_wardAt := rfl
theorem c_X11_wardAt (L : Nat) (xs : Nat → Int32) (n d : Nat) {R : v_Rf} (hW : z_W R) (w : Int32) (S : v_Sf) : u_P L xs n d m_X11_wardAt 0 (lv_args 0 [.ref 1, .int w]) [] S R (z_WD R S w) := by
  show u_P L xs n d m_X11_wardAt 0 [(0, .ref 1), (1, .int w)] [] S R _
  refine u_st rfl (fun _ => rfl) ?_
  show u_P L xs n d m_X11_wardAt 1 [(0, .ref 1), (1, .int w)] [.int w] S R _
  refine u_if_lt rfl (fun h1 => ?_) (fun h1 => ?_)
  · show u_P L xs n d m_X11_wardAt 22 [(0, .ref 1), (1, .int w)] [] S R _
    refine u_st rfl (fun _ => rfl) ?_
    show u_P L xs n d m_X11_wardAt 23 [(0, .ref 1), (1, .int w)] [.null] S R _
    exact u_ret rfl rfl ⟨rfl, rfl, Or.inr ⟨z_wn1 h1, rfl⟩⟩
  · show u_P L xs n d m_X11_wardAt 4 [(0, .ref 1), (1, .int w)] [] S R _
    refine u_st rfl (fun _ => rfl) ?_
    refine u_st rfl (fun _ => rfl) ?_
    show u_P L xs n d m_X11_wardAt 6 [(0, .ref 1), (1, .int w)] [.ref 1, .int w] S R _
    refine u_getr rfl v_tyC rfl ?_
    show u_P L xs n d m_X11_wardAt 9 [(0, .ref 1), (1, .int w)] [.ref 33, .int w] S R _
    refine u_alr rfl rfl ?_
    show u_P L xs n d m_X11_wardAt 10 [(0, .ref 1), (1, .int w)] [.int (Int32.ofNat 6), .int w] S R _
    refine u_ic_ge rfl (fun h2 => ?_) (fun h2 => ?_)
    · show u_P L xs n d m_X11_wardAt 22 [(0, .ref 1), (1, .int w)] [] S R _
      refine u_st rfl (fun _ => rfl) ?_
      show u_P L xs n d m_X11_wardAt 23 [(0, .ref 1), (1, .int w)] [.null] S R _
      exact u_ret rfl rfl ⟨rfl, rfl, Or.inr ⟨z_wn2 h2, rfl⟩⟩
    · show u_P L xs n d m_X11_wardAt 13 [(0, .ref 1), (1, .int w)] [] S R _
      refine u_st rfl (fun _ => rfl) ?_
      show u_P L xs n d m_X11_wardAt 14 [(0, .ref 1), (1, .int w)] [.ref 1] S R _
      refine u_getr rfl v_tyC rfl ?_
      refine u_st rfl (fun _ => rfl) ?_
      show u_P L xs n d m_X11_wardAt 18 [(0, .ref 1), (1, .int w)] [.int w, .ref 33] S R _
      refine u_aald rfl rfl (fun b31 b32 => ?_)
      rw [hW _ (z_lt6 b31 b32)]
      refine u_st rfl (fun _ => rfl) ?_
      show u_P L xs n d m_X11_wardAt 23 [(0, .ref 1), (1, .int w)] [.ref (((33 + 2 * w.toInt.toNat)) + 1)] S R _
      exact u_ret rfl rfl ⟨rfl, rfl, Or.inl ⟨⟨b31, b32⟩, rfl⟩⟩
noncomputable abbrev m_X11_moves : g_M := (g_cn 11, yX11_moves, cX11_moves, 4, (some .boolean), g_look2 ttX11_moves)
set_option maxRecDepth 20000 in
theorem mt_X11_moves : g_mt 113 = some m_X11_moves := rfl
noncomputable def f_X11_moves (g : Int32) (w : Int32) (S : v_Sf) : Int32 := (if 0 ≤ w.toInt ∧ w.toInt < ((6 : Nat) : Int) then (if (f_X7_hasGust 1 g S) = 0 then Int32.ofInt 0 else (if ¬ (S 5 g.toInt.toNat) = w then (if (f_J6_bitCount_0f7a4 (f_X7_inWard 1 w S)) < (S ((33 + 2 * w.toInt.toNat)) 2) then Int32.ofInt 1 else Int32.ofInt 0) else Int32.ofInt 0)) else (if (f_X7_hasGust 1 g S) = 0 then Int32.ofInt 0 else Int32.ofInt 0))
noncomputable def g_X11_moves (g : Int32) (w : Int32) (S : v_Sf) : v_Sf := (if 0 ≤ w.toInt ∧ w.toInt < ((6 : Nat) : Int) then (if (f_X7_hasGust 1 g S) = 0 then S else (if ¬ (S 5 g.toInt.toNat) = w then (if (f_J6_bitCount_0f7a4 (f_X7_inWard 1 w S)) < (S ((33 + 2 * w.toInt.toNat)) 2) then z_s S 5 g.toInt.toNat w else S) else S)) else S)
set_option maxRecDepth 4000 in
theorem c_X11_moves (L : Nat) (xs : Nat → Int32) (n d : Nat) {R : v_Rf} (hW : z_W R) (g : Int32) (w : Int32) (S : v_Sf) : u_P L xs n d m_X11_moves 0 (lv_args 0 [.ref 1, .int g, .int w]) [] S R (z_Q R (fun v S1 => f_X11_moves g w S = v ∧ g_X11_moves g w S = S1)) := by
  show u_P L xs n d m_X11_moves 0 [(0, .ref 1), (1, .int g), (2, .int w)] [] S R _
  refine u_st rfl (fun _ => rfl) ?_
  refine u_st rfl (fun _ => rfl) ?_
  show u_P L xs n d m_X11_moves 2 [(0, .ref 1), (1, .int g), (2, .int w)] [.int w, .ref 1] S R _
  refine u_cv (rest := []) rfl (by decide) mt_X11_wardAt v_tyC rfl rfl rfl (Nat.le_of_ble_eq_true rfl) (Nat.le_of_ble_eq_true rfl) (Nat.le_of_ble_eq_true rfl) (fun d' => c_X11_wardAt L xs n d' hW w S) ?_
  rintro _ _ _ ⟨rfl, rfl, ⟨h1, rfl⟩ | ⟨h1, rfl⟩⟩
  · show u_P L xs n d m_X11_moves 5 [(0, .ref 1), (1, .int g), (2, .int w)] [.ref (((33 + 2 * w.toInt.toNat)) + 1)] S R _
    refine u_st rfl (fun _ => rfl) ?_
    refine u_st rfl (fun _ => rfl) ?_
    show u_P L xs n d m_X11_moves 7 [(3, .ref (((33 + 2 * w.toInt.toNat)) + 1)), (0, .ref 1), (1, .int g), (2, .int w)] [.ref 1] S R _
    refine u_getr rfl v_tyC rfl ?_
    refine u_st rfl (fun _ => rfl) ?_
    show u_P L xs n d m_X11_moves 11 [(3, .ref (((33 + 2 * w.toInt.toNat)) + 1)), (0, .ref 1), (1, .int g), (2, .int w)] [.int g, .ref 2] S R _
    refine u_cv (rest := []) rfl (by decide) mt_X7_hasGust rfl rfl rfl rfl (Nat.le_of_ble_eq_true rfl) (Nat.le_of_ble_eq_true rfl) (Nat.le_of_ble_eq_true rfl) (fun d' => c_X7_hasGust L xs n d' 1 (Or.inl rfl) g S R) ?_
    rintro _ _ _ ⟨_, rfl, rfl, rfl, rfl⟩
    show u_P L xs n d m_X11_moves 14 [(3, .ref (((33 + 2 * w.toInt.toNat)) + 1)), (0, .ref 1), (1, .int g), (2, .int w)] [.int (f_X7_hasGust 1 g S)] S R _
    refine u_if_eq rfl (fun h2 => ?_) (fun h2 => ?_)
    · show u_P L xs n d m_X11_moves 34 [(3, .ref (((33 + 2 * w.toInt.toNat)) + 1)), (0, .ref 1), (1, .int g), (2, .int w)] [] S R _
      refine u_st rfl (fun _ => rfl) ?_
      show u_P L xs n d m_X11_moves 35 [(3, .ref (((33 + 2 * w.toInt.toNat)) + 1)), (0, .ref 1), (1, .int g), (2, .int w)] [.int (Int32.ofInt 0)] S R _
      exact u_retb rfl rfl ⟨_, rfl, rfl, by rw [f_X11_moves, if_pos h1, if_pos h2], by rw [g_X11_moves, if_pos h1, if_pos h2]⟩
    · show u_P L xs n d m_X11_moves 17 [(3, .ref (((33 + 2 * w.toInt.toNat)) + 1)), (0, .ref 1), (1, .int g), (2, .int w)] [] S R _
      refine u_st rfl (fun _ => rfl) ?_
      refine u_st rfl (fun _ => rfl) ?_
      refine u_st rfl (fun _ => rfl) ?_
      show u_P L xs n d m_X11_moves 22 [(3, .ref (((33 + 2 * w.toInt.toNat)) + 1)), (0, .ref 1), (1, .int g), (2, .int w)] [.ref 1] S R _
      refine u_getr rfl v_tyC rfl ?_
      show u_P L xs n d m_X11_moves 25 [(3, .ref (((33 + 2 * w.toInt.toNat)) + 1)), (0, .ref 1), (1, .int g), (2, .int w)] [.ref 2] S R _
      refine u_getr rfl rfl rfl ?_
      refine u_st rfl (fun _ => rfl) ?_
      show u_P L xs n d m_X11_moves 29 [(3, .ref (((33 + 2 * w.toInt.toNat)) + 1)), (0, .ref 1), (1, .int g), (2, .int w)] [.int g, .ref 6] S R _
      refine u_ialdE (v := S 5 g.toInt.toNat) rfl rfl rfl (fun b31 b32 => ?_)
      refine u_st rfl (fun _ => rfl) ?_
      show u_P L xs n d m_X11_moves 31 [(3, .ref (((33 + 2 * w.toInt.toNat)) + 1)), (0, .ref 1), (1, .int g), (2, .int w)] [.int w, .int (S 5 g.toInt.toNat)] S R _
      refine u_ic_ne rfl (fun h4 => ?_) (fun h4 => ?_)
      · show u_P L xs n d m_X11_moves 36 [(3, .ref (((33 + 2 * w.toInt.toNat)) + 1)), (0, .ref 1), (1, .int g), (2, .int w)] [] S R _
        refine u_st rfl (fun _ => rfl) ?_
        show u_P L xs n d m_X11_moves 37 [(3, .ref (((33 + 2 * w.toInt.toNat)) + 1)), (0, .ref 1), (1, .int g), (2, .int w)] [.ref 1] S R _
        refine u_getr rfl v_tyC rfl ?_
        refine u_st rfl (fun _ => rfl) ?_
        show u_P L xs n d m_X11_moves 41 [(3, .ref (((33 + 2 * w.toInt.toNat)) + 1)), (0, .ref 1), (1, .int g), (2, .int w)] [.int w, .ref 2] S R _
        refine u_cv (rest := []) rfl (by decide) mt_X7_inWard rfl rfl rfl rfl (Nat.le_of_ble_eq_true rfl) (Nat.le_of_ble_eq_true rfl) (Nat.le_of_ble_eq_true rfl) (fun d' => c_X7_inWard L xs n d' 1 (Or.inl rfl) w S R) ?_
        rintro _ _ _ ⟨_, rfl, rfl, rfl, rfl⟩
        show u_P L xs n d m_X11_moves 44 [(3, .ref (((33 + 2 * w.toInt.toNat)) + 1)), (0, .ref 1), (1, .int g), (2, .int w)] [.int (f_X7_inWard 1 w S)] S R _
        refine u_cs (ac := [.int (f_X7_inWard 1 w S)]) (rest := []) rfl (by decide) mt_J6_bitCount_0f7a4 (fun _ => rfl) (Nat.le_of_ble_eq_true rfl) (Nat.le_of_ble_eq_true rfl) (fun d' => c_J6_bitCount_0f7a4 L xs n d' (f_X7_inWard 1 w S) S R) ?_
        rintro _ _ _ ⟨_, rfl, rfl, rfl, rfl⟩
        refine u_st rfl (fun _ => rfl) ?_
        show u_P L xs n d m_X11_moves 48 [(3, .ref (((33 + 2 * w.toInt.toNat)) + 1)), (0, .ref 1), (1, .int g), (2, .int w)] [.ref (((33 + 2 * w.toInt.toNat)) + 1), .int (f_J6_bitCount_0f7a4 (f_X7_inWard 1 w S))] S R _
        refine u_getE (v := S ((33 + 2 * w.toInt.toNat)) 2) rfl (z_wd0 (z_wdi h1.1 h1.2)) rfl rfl ?_
        show u_P L xs n d m_X11_moves 51 [(3, .ref (((33 + 2 * w.toInt.toNat)) + 1)), (0, .ref 1), (1, .int g), (2, .int w)] [.int (S ((33 + 2 * w.toInt.toNat)) 2), .int (f_J6_bitCount_0f7a4 (f_X7_inWard 1 w S))] S R _
        refine u_ic_lt rfl (fun h5 => ?_) (fun h5 => ?_)
        · show u_P L xs n d m_X11_moves 56 [(3, .ref (((33 + 2 * w.toInt.toNat)) + 1)), (0, .ref 1), (1, .int g), (2, .int w)] [] S R _
          refine u_st rfl (fun _ => rfl) ?_
          show u_P L xs n d m_X11_moves 57 [(3, .ref (((33 + 2 * w.toInt.toNat)) + 1)), (0, .ref 1), (1, .int g), (2, .int w)] [.ref 1] S R _
          refine u_getr rfl v_tyC rfl ?_
          show u_P L xs n d m_X11_moves 60 [(3, .ref (((33 + 2 * w.toInt.toNat)) + 1)), (0, .ref 1), (1, .int g), (2, .int w)] [.ref 2] S R _
          refine u_getr rfl rfl rfl ?_
          refine u_st rfl (fun _ => rfl) ?_
          refine u_st rfl (fun _ => rfl) ?_
          show u_P L xs n d m_X11_moves 65 [(3, .ref (((33 + 2 * w.toInt.toNat)) + 1)), (0, .ref 1), (1, .int g), (2, .int w)] [.int w, .int g, .ref 6] S R _
          refine u_iast rfl rfl (fun b61 b62 => ?_)
          refine u_st rfl (fun _ => rfl) ?_
          show u_P L xs n d m_X11_moves 67 [(3, .ref (((33 + 2 * w.toInt.toNat)) + 1)), (0, .ref 1), (1, .int g), (2, .int w)] [.int (Int32.ofInt 1)] (z_s S 5 g.toInt.toNat w) R _
          exact u_retb rfl rfl ⟨_, rfl, rfl, by rw [f_X11_moves, if_pos h1, if_neg h2, if_pos h4, if_pos h5], by rw [g_X11_moves, if_pos h1, if_neg h2, if_pos h4, if_pos h5]⟩
        · show u_P L xs n d m_X11_moves 54 [(3, .ref (((33 + 2 * w.toInt.toNat)) + 1)), (0, .ref 1), (1, .int g), (2, .int w)] [] S R _
          refine u_st rfl (fun _ => rfl) ?_
          show u_P L xs n d m_X11_moves 55 [(3, .ref (((33 + 2 * w.toInt.toNat)) + 1)), (0, .ref 1), (1, .int g), (2, .int w)] [.int (Int32.ofInt 0)] S R _
          exact u_retb rfl rfl ⟨_, rfl, rfl, by rw [f_X11_moves, if_pos h1, if_neg h2, if_pos h4, if_neg h5], by rw [g_X11_moves, if_pos h1, if_neg h2, if_pos h4, if_neg h5]⟩
      · show u_P L xs n d m_X11_moves 34 [(3, .ref (((33 + 2 * w.toInt.toNat)) + 1)), (0, .ref 1), (1, .int g), (2, .int w)] [] S R _
        refine u_st rfl (fun _ => rfl) ?_
        show u_P L xs n d m_X11_moves 35 [(3, .ref (((33 + 2 * w.toInt.toNat)) + 1)), (0, .ref 1), (1, .int g), (2, .int w)] [.int (Int32.ofInt 0)] S R _
        exact u_retb rfl rfl ⟨_, rfl, rfl, by rw [f_X11_moves, if_pos h1, if_neg h2, if_neg h4], by rw [g_X11_moves, if_pos h1, if_neg h2, if_neg h4]⟩
  · show u_P L xs n d m_X11_moves 5 [(0, .ref 1), (1, .int g), (2, .int w)] [.null] S R _
    refine u_st rfl (fun _ => rfl) ?_
    refine u_st rfl (fun _ => rfl) ?_
    show u_P L xs n d m_X11_moves 7 [(3, .null), (0, .ref 1), (1, .int g), (2, .int w)] [.ref 1] S R _
    refine u_getr rfl v_tyC rfl ?_
    refine u_st rfl (fun _ => rfl) ?_
    show u_P L xs n d m_X11_moves 11 [(3, .null), (0, .ref 1), (1, .int g), (2, .int w)] [.int g, .ref 2] S R _
    refine u_cv (rest := []) rfl (by decide) mt_X7_hasGust rfl rfl rfl rfl (Nat.le_of_ble_eq_true rfl) (Nat.le_of_ble_eq_true rfl) (Nat.le_of_ble_eq_true rfl) (fun d' => c_X7_hasGust L xs n d' 1 (Or.inl rfl) g S R) ?_
    rintro _ _ _ ⟨_, rfl, rfl, rfl, rfl⟩
    show u_P L xs n d m_X11_moves 14 [(3, .null), (0, .ref 1), (1, .int g), (2, .int w)] [.int (f_X7_hasGust 1 g S)] S R _
    refine u_if_eq rfl (fun h7 => ?_) (fun h7 => ?_)
    · show u_P L xs n d m_X11_moves 34 [(3, .null), (0, .ref 1), (1, .int g), (2, .int w)] [] S R _
      refine u_st rfl (fun _ => rfl) ?_
      show u_P L xs n d m_X11_moves 35 [(3, .null), (0, .ref 1), (1, .int g), (2, .int w)] [.int (Int32.ofInt 0)] S R _
      exact u_retb rfl rfl ⟨_, rfl, rfl, by rw [f_X11_moves, if_neg h1, if_pos h7], by rw [g_X11_moves, if_neg h1]⟩
    · show u_P L xs n d m_X11_moves 17 [(3, .null), (0, .ref 1), (1, .int g), (2, .int w)] [] S R _
      refine u_st rfl (fun _ => rfl) ?_
      refine u_st rfl (fun _ => rfl) ?_
      refine u_st rfl (fun _ => rfl) ?_
      show u_P L xs n d m_X11_moves 35 [(3, .null), (0, .ref 1), (1, .int g), (2, .int w)] [.int (Int32.ofInt 0)] S R _
      exact u_retb rfl rfl ⟨_, rfl, rfl, by rw [f_X11_moves, if_neg h1, if_neg h7], by rw [g_X11_moves, if_neg h1]⟩
noncomputable abbrev m_X11_ward : g_M := (g_cn 11, yX11_ward, cX11_ward, 7, (some .boolean), g_look2 ttX11_ward)
set_option maxRecDepth 20000 in
theorem mt_X11_ward : g_mt 115 = some m_X11_ward := rfl
noncomputable def f_X11_ward (w : Int32) (a : Int32) (b : Int32) (k : Int32) (S : v_Sf) : Int32 := (if 0 ≤ w.toInt ∧ w.toInt < ((6 : Nat) : Int) then (if (f_X11_within a (Int32.ofInt 9)) = 0 then Int32.ofInt 0 else (if (f_X11_within b (Int32.ofInt 9)) = 0 then Int32.ofInt 0 else (if k = (Int32.ofInt (-1)) then Int32.ofInt 1 else (if (f_X11_within k (Int32.ofInt 4)) = 0 then Int32.ofInt 0 else Int32.ofInt 1)))) else (if (f_X11_within a (Int32.ofInt 9)) = 0 then Int32.ofInt 0 else (if (f_X11_within b (Int32.ofInt 9)) = 0 then Int32.ofInt 0 else (if k = (Int32.ofInt (-1)) then Int32.ofInt 0 else (if (f_X11_within k (Int32.ofInt 4)) = 0 then Int32.ofInt 0 else Int32.ofInt 0)))))
noncomputable def g_X11_ward (w : Int32) (a : Int32) (b : Int32) (k : Int32) (S : v_Sf) : v_Sf := (if 0 ≤ w.toInt ∧ w.toInt < ((6 : Nat) : Int) then (if (f_X11_within a (Int32.ofInt 9)) = 0 then S else (if (f_X11_within b (Int32.ofInt 9)) = 0 then S else (if k = (Int32.ofInt (-1)) then z_s (z_s (z_s S ((33 + 2 * w.toInt.toNat)) 2 a) ((33 + 2 * w.toInt.toNat)) 3 b) ((33 + 2 * w.toInt.toNat)) 4 k else (if (f_X11_within k (Int32.ofInt 4)) = 0 then S else z_s (z_s (z_s S ((33 + 2 * w.toInt.toNat)) 2 a) ((33 + 2 * w.toInt.toNat)) 3 b) ((33 + 2 * w.toInt.toNat)) 4 k)))) else S)
set_option maxRecDepth 4000 in
theorem c_X11_ward (L : Nat) (xs : Nat → Int32) (n d : Nat) {R : v_Rf} (hW : z_W R) (w : Int32) (a : Int32) (b : Int32) (k : Int32) (S : v_Sf) : u_P L xs n d m_X11_ward 0 (lv_args 0 [.ref 1, .int w, .int a, .int b, .int k]) [] S R (z_Q R (fun v S1 => f_X11_ward w a b k S = v ∧ g_X11_ward w a b k S = S1)) := by
  show u_P L xs n d m_X11_ward 0 [(0, .ref 1), (1, .int w), (2, .int a), (3, .int b), (4, .int k)] [] S R _
  refine u_st rfl (fun _ => rfl) ?_
  refine u_st rfl (fun _ => rfl) ?_
  show u_P L xs n d m_X11_ward 2 [(0, .ref 1), (1, .int w), (2, .int a), (3, .int b), (4, .int k)] [.int w, .ref 1] S R _
  refine u_cv (rest := []) rfl (by decide) mt_X11_wardAt v_tyC rfl rfl rfl (Nat.le_of_ble_eq_true rfl) (Nat.le_of_ble_eq_true rfl) (Nat.le_of_ble_eq_true rfl) (fun d' => c_X11_wardAt L xs n d' hW w S) ?_
  rintro _ _ _ ⟨rfl, rfl, ⟨h1, rfl⟩ | ⟨h1, rfl⟩⟩
  · show u_P L xs n d m_X11_ward 5 [(0, .ref 1), (1, .int w), (2, .int a), (3, .int b), (4, .int k)] [.ref (((33 + 2 * w.toInt.toNat)) + 1)] S R _
    refine u_st rfl (fun _ => rfl) ?_
    refine u_st rfl (fun _ => rfl) ?_
    refine u_st rfl (fun _ => rfl) ?_
    show u_P L xs n d m_X11_ward 10 [(5, .ref (((33 + 2 * w.toInt.toNat)) + 1)), (0, .ref 1), (1, .int w), (2, .int a), (3, .int b), (4, .int k)] [.int (Int32.ofInt 9), .int a] S R _
    refine u_cs (ac := [.int a, .int (Int32.ofInt 9)]) (rest := []) rfl (by decide) mt_X11_within (fun _ => rfl) (Nat.le_of_ble_eq_true rfl) (Nat.le_of_ble_eq_true rfl) (fun d' => c_X11_within L xs n d' a (Int32.ofInt 9) S R) ?_
    rintro _ _ _ ⟨_, rfl, rfl, rfl, rfl⟩
    show u_P L xs n d m_X11_ward 13 [(5, .ref (((33 + 2 * w.toInt.toNat)) + 1)), (0, .ref 1), (1, .int w), (2, .int a), (3, .int b), (4, .int k)] [.int (f_X11_within a (Int32.ofInt 9))] S R _
    refine u_if_eq rfl (fun h2 => ?_) (fun h2 => ?_)
    · show u_P L xs n d m_X11_ward 44 [(5, .ref (((33 + 2 * w.toInt.toNat)) + 1)), (0, .ref 1), (1, .int w), (2, .int a), (3, .int b), (4, .int k)] [] S R _
      refine u_st rfl (fun _ => rfl) ?_
      refine u_st rfl (fun _ => rfl) ?_
      refine u_st rfl (fun _ => rfl) ?_
      refine u_st rfl (fun _ => rfl) ?_
      refine u_st rfl (fun _ => rfl) ?_
      show u_P L xs n d m_X11_ward 54 [(6, .int (Int32.ofInt 0)), (5, .ref (((33 + 2 * w.toInt.toNat)) + 1)), (0, .ref 1), (1, .int w), (2, .int a), (3, .int b), (4, .int k)] [.int (Int32.ofInt 0)] S R _
      refine u_st rfl (fun _ => rfl) ?_
      refine u_st rfl (fun _ => rfl) ?_
      show u_P L xs n d m_X11_ward 58 [(6, .int (Int32.ofInt 0)), (5, .ref (((33 + 2 * w.toInt.toNat)) + 1)), (0, .ref 1), (1, .int w), (2, .int a), (3, .int b), (4, .int k)] [.int (Int32.ofInt 0)] S R _
      exact u_retb rfl rfl ⟨_, rfl, rfl, by rw [f_X11_ward, if_pos h1, if_pos h2], by rw [g_X11_ward, if_pos h1, if_pos h2]⟩
    · show u_P L xs n d m_X11_ward 16 [(5, .ref (((33 + 2 * w.toInt.toNat)) + 1)), (0, .ref 1), (1, .int w), (2, .int a), (3, .int b), (4, .int k)] [] S R _
      refine u_st rfl (fun _ => rfl) ?_
      refine u_st rfl (fun _ => rfl) ?_
      show u_P L xs n d m_X11_ward 19 [(5, .ref (((33 + 2 * w.toInt.toNat)) + 1)), (0, .ref 1), (1, .int w), (2, .int a), (3, .int b), (4, .int k)] [.int (Int32.ofInt 9), .int b] S R _
      refine u_cs (ac := [.int b, .int (Int32.ofInt 9)]) (rest := []) rfl (by decide) mt_X11_within (fun _ => rfl) (Nat.le_of_ble_eq_true rfl) (Nat.le_of_ble_eq_true rfl) (fun d' => c_X11_within L xs n d' b (Int32.ofInt 9) S R) ?_
      rintro _ _ _ ⟨_, rfl, rfl, rfl, rfl⟩
      show u_P L xs n d m_X11_ward 22 [(5, .ref (((33 + 2 * w.toInt.toNat)) + 1)), (0, .ref 1), (1, .int w), (2, .int a), (3, .int b), (4, .int k)] [.int (f_X11_within b (Int32.ofInt 9))] S R _
      refine u_if_eq rfl (fun h3 => ?_) (fun h3 => ?_)
      · show u_P L xs n d m_X11_ward 44 [(5, .ref (((33 + 2 * w.toInt.toNat)) + 1)), (0, .ref 1), (1, .int w), (2, .int a), (3, .int b), (4, .int k)] [] S R _
        refine u_st rfl (fun _ => rfl) ?_
        refine u_st rfl (fun _ => rfl) ?_
        refine u_st rfl (fun _ => rfl) ?_
        refine u_st rfl (fun _ => rfl) ?_
        refine u_st rfl (fun _ => rfl) ?_
        show u_P L xs n d m_X11_ward 54 [(6, .int (Int32.ofInt 0)), (5, .ref (((33 + 2 * w.toInt.toNat)) + 1)), (0, .ref 1), (1, .int w), (2, .int a), (3, .int b), (4, .int k)] [.int (Int32.ofInt 0)] S R _
        refine u_st rfl (fun _ => rfl) ?_
        refine u_st rfl (fun _ => rfl) ?_
        show u_P L xs n d m_X11_ward 58 [(6, .int (Int32.ofInt 0)), (5, .ref (((33 + 2 * w.toInt.toNat)) + 1)), (0, .ref 1), (1, .int w), (2, .int a), (3, .int b), (4, .int k)] [.int (Int32.ofInt 0)] S R _
        exact u_retb rfl rfl ⟨_, rfl, rfl, by rw [f_X11_ward, if_pos h1, if_neg h2, if_pos h3], by rw [g_X11_ward, if_pos h1, if_neg h2, if_pos h3]⟩
      · show u_P L xs n d m_X11_ward 25 [(5, .ref (((33 + 2 * w.toInt.toNat)) + 1)), (0, .ref 1), (1, .int w), (2, .int a), (3, .int b), (4, .int k)] [] S R _
        refine u_st rfl (fun _ => rfl) ?_
        refine u_st rfl (fun _ => rfl) ?_
        show u_P L xs n d m_X11_ward 28 [(5, .ref (((33 + 2 * w.toInt.toNat)) + 1)), (0, .ref 1), (1, .int w), (2, .int a), (3, .int b), (4, .int k)] [.int (Int32.ofInt (-1)), .int k] S R _
        refine u_ic_eq rfl (fun h4 => ?_) (fun h4 => ?_)
        · show u_P L xs n d m_X11_ward 40 [(5, .ref (((33 + 2 * w.toInt.toNat)) + 1)), (0, .ref 1), (1, .int w), (2, .int a), (3, .int b), (4, .int k)] [] S R _
          refine u_st rfl (fun _ => rfl) ?_
          refine u_st rfl (fun _ => rfl) ?_
          refine u_st rfl (fun _ => rfl) ?_
          refine u_st rfl (fun _ => rfl) ?_
          refine u_st rfl (fun _ => rfl) ?_
          refine u_st rfl (fun _ => rfl) ?_
          show u_P L xs n d m_X11_ward 54 [(6, .int (Int32.ofInt 1)), (5, .ref (((33 + 2 * w.toInt.toNat)) + 1)), (0, .ref 1), (1, .int w), (2, .int a), (3, .int b), (4, .int k)] [.int (Int32.ofInt 1)] S R _
          refine u_st rfl (fun _ => rfl) ?_
          refine u_st rfl (fun _ => rfl) ?_
          refine u_st rfl (fun _ => rfl) ?_
          show u_P L xs n d m_X11_ward 62 [(6, .int (Int32.ofInt 1)), (5, .ref (((33 + 2 * w.toInt.toNat)) + 1)), (0, .ref 1), (1, .int w), (2, .int a), (3, .int b), (4, .int k)] [.int a, .ref (((33 + 2 * w.toInt.toNat)) + 1)] S R _
          refine u_put rfl (z_wd0 (z_wdi h1.1 h1.2)) rfl ?_
          refine u_st rfl (fun _ => rfl) ?_
          refine u_st rfl (fun _ => rfl) ?_
          show u_P L xs n d m_X11_ward 68 [(6, .int (Int32.ofInt 1)), (5, .ref (((33 + 2 * w.toInt.toNat)) + 1)), (0, .ref 1), (1, .int w), (2, .int a), (3, .int b), (4, .int k)] [.int b, .ref (((33 + 2 * w.toInt.toNat)) + 1)] (z_s S ((33 + 2 * w.toInt.toNat)) 2 a) R _
          refine u_put rfl (z_wd0 (z_wdi h1.1 h1.2)) rfl ?_
          refine u_st rfl (fun _ => rfl) ?_
          refine u_st rfl (fun _ => rfl) ?_
          show u_P L xs n d m_X11_ward 75 [(6, .int (Int32.ofInt 1)), (5, .ref (((33 + 2 * w.toInt.toNat)) + 1)), (0, .ref 1), (1, .int w), (2, .int a), (3, .int b), (4, .int k)] [.int k, .ref (((33 + 2 * w.toInt.toNat)) + 1)] (z_s (z_s S ((33 + 2 * w.toInt.toNat)) 2 a) ((33 + 2 * w.toInt.toNat)) 3 b) R _
          refine u_put rfl (z_wd0 (z_wdi h1.1 h1.2)) rfl ?_
          refine u_st rfl (fun _ => rfl) ?_
          show u_P L xs n d m_X11_ward 79 [(6, .int (Int32.ofInt 1)), (5, .ref (((33 + 2 * w.toInt.toNat)) + 1)), (0, .ref 1), (1, .int w), (2, .int a), (3, .int b), (4, .int k)] [.int (Int32.ofInt 1)] (z_s (z_s (z_s S ((33 + 2 * w.toInt.toNat)) 2 a) ((33 + 2 * w.toInt.toNat)) 3 b) ((33 + 2 * w.toInt.toNat)) 4 k) R _
          exact u_retb rfl rfl ⟨_, rfl, rfl, by rw [f_X11_ward, if_pos h1, if_neg h2, if_neg h3, if_pos h4], by rw [g_X11_ward, if_pos h1, if_neg h2, if_neg h3, if_pos h4]⟩
        · show u_P L xs n d m_X11_ward 31 [(5, .ref (((33 + 2 * w.toInt.toNat)) + 1)), (0, .ref 1), (1, .int w), (2, .int a), (3, .int b), (4, .int k)] [] S R _
          refine u_st rfl (fun _ => rfl) ?_
          refine u_st rfl (fun _ => rfl) ?_
          show u_P L xs n d m_X11_ward 34 [(5, .ref (((33 + 2 * w.toInt.toNat)) + 1)), (0, .ref 1), (1, .int w), (2, .int a), (3, .int b), (4, .int k)] [.int (Int32.ofInt 4), .int k] S R _
          refine u_cs (ac := [.int k, .int (Int32.ofInt 4)]) (rest := []) rfl (by decide) mt_X11_within (fun _ => rfl) (Nat.le_of_ble_eq_true rfl) (Nat.le_of_ble_eq_true rfl) (fun d' => c_X11_within L xs n d' k (Int32.ofInt 4) S R) ?_
          rintro _ _ _ ⟨_, rfl, rfl, rfl, rfl⟩
          show u_P L xs n d m_X11_ward 37 [(5, .ref (((33 + 2 * w.toInt.toNat)) + 1)), (0, .ref 1), (1, .int w), (2, .int a), (3, .int b), (4, .int k)] [.int (f_X11_within k (Int32.ofInt 4))] S R _
          refine u_if_eq rfl (fun h5 => ?_) (fun h5 => ?_)
          · show u_P L xs n d m_X11_ward 44 [(5, .ref (((33 + 2 * w.toInt.toNat)) + 1)), (0, .ref 1), (1, .int w), (2, .int a), (3, .int b), (4, .int k)] [] S R _
            refine u_st rfl (fun _ => rfl) ?_
            refine u_st rfl (fun _ => rfl) ?_
            refine u_st rfl (fun _ => rfl) ?_
            refine u_st rfl (fun _ => rfl) ?_
            refine u_st rfl (fun _ => rfl) ?_
            show u_P L xs n d m_X11_ward 54 [(6, .int (Int32.ofInt 0)), (5, .ref (((33 + 2 * w.toInt.toNat)) + 1)), (0, .ref 1), (1, .int w), (2, .int a), (3, .int b), (4, .int k)] [.int (Int32.ofInt 0)] S R _
            refine u_st rfl (fun _ => rfl) ?_
            refine u_st rfl (fun _ => rfl) ?_
            show u_P L xs n d m_X11_ward 58 [(6, .int (Int32.ofInt 0)), (5, .ref (((33 + 2 * w.toInt.toNat)) + 1)), (0, .ref 1), (1, .int w), (2, .int a), (3, .int b), (4, .int k)] [.int (Int32.ofInt 0)] S R _
            exact u_retb rfl rfl ⟨_, rfl, rfl, by rw [f_X11_ward, if_pos h1, if_neg h2, if_neg h3, if_neg h4, if_pos h5], by rw [g_X11_ward, if_pos h1, if_neg h2, if_neg h3, if_neg h4, if_pos h5]⟩
          · show u_P L xs n d m_X11_ward 40 [(5, .ref (((33 + 2 * w.toInt.toNat)) + 1)), (0, .ref 1), (1, .int w), (2, .int a), (3, .int b), (4, .int k)] [] S R _
            refine u_st rfl (fun _ => rfl) ?_
            refine u_st rfl (fun _ => rfl) ?_
            refine u_st rfl (fun _ => rfl) ?_
            refine u_st rfl (fun _ => rfl) ?_
            refine u_st rfl (fun _ => rfl) ?_
            refine u_st rfl (fun _ => rfl) ?_
            show u_P L xs n d m_X11_ward 54 [(6, .int (Int32.ofInt 1)), (5, .ref (((33 + 2 * w.toInt.toNat)) + 1)), (0, .ref 1), (1, .int w), (2, .int a), (3, .int b), (4, .int k)] [.int (Int32.ofInt 1)] S R _
            refine u_st rfl (fun _ => rfl) ?_
            refine u_st rfl (fun _ => rfl) ?_
            refine u_st rfl (fun _ => rfl) ?_
            show u_P L xs n d m_X11_ward 62 [(6, .int (Int32.ofInt 1)), (5, .ref (((33 + 2 * w.toInt.toNat)) + 1)), (0, .ref 1), (1, .int w), (2, .int a), (3, .int b), (4, .int k)] [.int a, .ref (((33 + 2 * w.toInt.toNat)) + 1)] S R _
            refine u_put rfl (z_wd0 (z_wdi h1.1 h1.2)) rfl ?_
            refine u_st rfl (fun _ => rfl) ?_
            refine u_st rfl (fun _ => rfl) ?_
            show u_P L xs n d m_X11_ward 68 [(6, .int (Int32.ofInt 1)), (5, .ref (((33 + 2 * w.toInt.toNat)) + 1)), (0, .ref 1), (1, .int w), (2, .int a), (3, .int b), (4, .int k)] [.int b, .ref (((33 + 2 * w.toInt.toNat)) + 1)] (z_s S ((33 + 2 * w.toInt.toNat)) 2 a) R _
            refine u_put rfl (z_wd0 (z_wdi h1.1 h1.2)) rfl ?_
            refine u_st rfl (fun _ => rfl) ?_
            refine u_st rfl (fun _ => rfl) ?_
            show u_P L xs n d m_X11_ward 75 [(6, .int (Int32.ofInt 1)), (5, .ref (((33 + 2 * w.toInt.toNat)) + 1)), (0, .ref 1), (1, .int w), (2, .int a), (3, .int b), (4, .int k)] [.int k, .ref (((33 + 2 * w.toInt.toNat)) + 1)] (z_s (z_s S ((33 + 2 * w.toInt.toNat)) 2 a) ((33 + 2 * w.toInt.toNat)) 3 b) R _
            refine u_put rfl (z_wd0 (z_wdi h1.1 h1.2)) rfl ?_
            refine u_st rfl (fun _ => rfl) ?_
            show u_P L xs n d m_X11_ward 79 [(6, .int (Int32.ofInt 1)), (5, .ref (((33 + 2 * w.toInt.toNat)) + 1)), (0, .ref 1), (1, .int w), (2, .int a), (3, .int b), (4, .int k)] [.int (Int32.ofInt 1)] (z_s (z_s (z_s S ((33 + 2 * w.toInt.toNat)) 2 a) ((33 + 2 * w.toInt.toNat)) 3 b) ((33 + 2 * w.toInt.toNat)) 4 k) R _
            exact u_retb rfl rfl ⟨_, rfl, rfl, by rw [f_X11_ward, if_pos h1, if_neg h2, if_neg h3, if_neg h4, if_neg h5], by rw [g_X11_ward, if_pos h1, if_neg h2, if_neg h3, if_neg h4, if_neg h5]⟩
  · show u_P L xs n d m_X11_ward 5 [(0, .ref 1), (1, .int w), (2, .int a), (3, .int b), (4, .int k)] [.null] S R _
    refine u_st rfl (fun _ => rfl) ?_
    refine u_st rfl (fun _ => rfl) ?_
    refine u_st rfl (fun _ => rfl) ?_
    show u_P L xs n d m_X11_ward 10 [(5, .null), (0, .ref 1), (1, .int w), (2, .int a), (3, .int b), (4, .int k)] [.int (Int32.ofInt 9), .int a] S R _
    refine u_cs (ac := [.int a, .int (Int32.ofInt 9)]) (rest := []) rfl (by decide) mt_X11_within (fun _ => rfl) (Nat.le_of_ble_eq_true rfl) (Nat.le_of_ble_eq_true rfl) (fun d' => c_X11_within L xs n d' a (Int32.ofInt 9) S R) ?_
    rintro _ _ _ ⟨_, rfl, rfl, rfl, rfl⟩
    show u_P L xs n d m_X11_ward 13 [(5, .null), (0, .ref 1), (1, .int w), (2, .int a), (3, .int b), (4, .int k)] [.int (f_X11_within a (Int32.ofInt 9))] S R _
    refine u_if_eq rfl (fun h6 => ?_) (fun h6 => ?_)
    · show u_P L xs n d m_X11_ward 44 [(5, .null), (0, .ref 1), (1, .int w), (2, .int a), (3, .int b), (4, .int k)] [] S R _
      refine u_st rfl (fun _ => rfl) ?_
      refine u_st rfl (fun _ => rfl) ?_
      refine u_st rfl (fun _ => rfl) ?_
      refine u_st rfl (fun _ => rfl) ?_
      refine u_st rfl (fun _ => rfl) ?_
      show u_P L xs n d m_X11_ward 58 [(6, .int (Int32.ofInt 0)), (5, .null), (0, .ref 1), (1, .int w), (2, .int a), (3, .int b), (4, .int k)] [.int (Int32.ofInt 0)] S R _
      exact u_retb rfl rfl ⟨_, rfl, rfl, by rw [f_X11_ward, if_neg h1, if_pos h6], by rw [g_X11_ward, if_neg h1]⟩
    · show u_P L xs n d m_X11_ward 16 [(5, .null), (0, .ref 1), (1, .int w), (2, .int a), (3, .int b), (4, .int k)] [] S R _
      refine u_st rfl (fun _ => rfl) ?_
      refine u_st rfl (fun _ => rfl) ?_
      show u_P L xs n d m_X11_ward 19 [(5, .null), (0, .ref 1), (1, .int w), (2, .int a), (3, .int b), (4, .int k)] [.int (Int32.ofInt 9), .int b] S R _
      refine u_cs (ac := [.int b, .int (Int32.ofInt 9)]) (rest := []) rfl (by decide) mt_X11_within (fun _ => rfl) (Nat.le_of_ble_eq_true rfl) (Nat.le_of_ble_eq_true rfl) (fun d' => c_X11_within L xs n d' b (Int32.ofInt 9) S R) ?_
      rintro _ _ _ ⟨_, rfl, rfl, rfl, rfl⟩
      show u_P L xs n d m_X11_ward 22 [(5, .null), (0, .ref 1), (1, .int w), (2, .int a), (3, .int b), (4, .int k)] [.int (f_X11_within b (Int32.ofInt 9))] S R _
      refine u_if_eq rfl (fun h7 => ?_) (fun h7 => ?_)
      · show u_P L xs n d m_X11_ward 44 [(5, .null), (0, .ref 1), (1, .int w), (2, .int a), (3, .int b), (4, .int k)] [] S R _
        refine u_st rfl (fun _ => rfl) ?_
        refine u_st rfl (fun _ => rfl) ?_
        refine u_st rfl (fun _ => rfl) ?_
        refine u_st rfl (fun _ => rfl) ?_
        refine u_st rfl (fun _ => rfl) ?_
        show u_P L xs n d m_X11_ward 58 [(6, .int (Int32.ofInt 0)), (5, .null), (0, .ref 1), (1, .int w), (2, .int a), (3, .int b), (4, .int k)] [.int (Int32.ofInt 0)] S R _
        exact u_retb rfl rfl ⟨_, rfl, rfl, by rw [f_X11_ward, if_neg h1, if_neg h6, if_pos h7], by rw [g_X11_ward, if_neg h1]⟩
      · show u_P L xs n d m_X11_ward 25 [(5, .null), (0, .ref 1), (1, .int w), (2, .int a), (3, .int b), (4, .int k)] [] S R _
        refine u_st rfl (fun _ => rfl) ?_
        refine u_st rfl (fun _ => rfl) ?_
        show u_P L xs n d m_X11_ward 28 [(5, .null), (0, .ref 1), (1, .int w), (2, .int a), (3, .int b), (4, .int k)] [.int (Int32.ofInt (-1)), .int k] S R _
        refine u_ic_eq rfl (fun h8 => ?_) (fun h8 => ?_)
        · show u_P L xs n d m_X11_ward 40 [(5, .null), (0, .ref 1), (1, .int w), (2, .int a), (3, .int b), (4, .int k)] [] S R _
          refine u_st rfl (fun _ => rfl) ?_
          refine u_st rfl (fun _ => rfl) ?_
          refine u_st rfl (fun _ => rfl) ?_
          refine u_st rfl (fun _ => rfl) ?_
          refine u_st rfl (fun _ => rfl) ?_
          refine u_st rfl (fun _ => rfl) ?_
          show u_P L xs n d m_X11_ward 58 [(6, .int (Int32.ofInt 1)), (5, .null), (0, .ref 1), (1, .int w), (2, .int a), (3, .int b), (4, .int k)] [.int (Int32.ofInt 0)] S R _
          exact u_retb rfl rfl ⟨_, rfl, rfl, by rw [f_X11_ward, if_neg h1, if_neg h6, if_neg h7, if_pos h8], by rw [g_X11_ward, if_neg h1]⟩
        · show u_P L xs n d m_X11_ward 31 [(5, .null), (0, .ref 1), (1, .int w), (2, .int a), (3, .int b), (4, .int k)] [] S R _
          refine u_st rfl (fun _ => rfl) ?_
          refine u_st rfl (fun _ => rfl) ?_
          show u_P L xs n d m_X11_ward 34 [(5, .null), (0, .ref 1), (1, .int w), (2, .int a), (3, .int b), (4, .int k)] [.int (Int32.ofInt 4), .int k] S R _
          refine u_cs (ac := [.int k, .int (Int32.ofInt 4)]) (rest := []) rfl (by decide) mt_X11_within (fun _ => rfl) (Nat.le_of_ble_eq_true rfl) (Nat.le_of_ble_eq_true rfl) (fun d' => c_X11_within L xs n d' k (Int32.ofInt 4) S R) ?_
          rintro _ _ _ ⟨_, rfl, rfl, rfl, rfl⟩
          show u_P L xs n d m_X11_ward 37 [(5, .null), (0, .ref 1), (1, .int w), (2, .int a), (3, .int b), (4, .int k)] [.int (f_X11_within k (Int32.ofInt 4))] S R _
          refine u_if_eq rfl (fun h9 => ?_) (fun h9 => ?_)
          · show u_P L xs n d m_X11_ward 44 [(5, .null), (0, .ref 1), (1, .int w), (2, .int a), (3, .int b), (4, .int k)] [] S R _
            refine u_st rfl (fun _ => rfl) ?_
            refine u_st rfl (fun _ => rfl) ?_
            refine u_st rfl (fun _ => rfl) ?_
            refine u_st rfl (fun _ => rfl) ?_
            refine u_st rfl (fun _ => rfl) ?_
            show u_P L xs n d m_X11_ward 58 [(6, .int (Int32.ofInt 0)), (5, .null), (0, .ref 1), (1, .int w), (2, .int a), (3, .int b), (4, .int k)] [.int (Int32.ofInt 0)] S R _
            exact u_retb rfl rfl ⟨_, rfl, rfl, by rw [f_X11_ward, if_neg h1, if_neg h6, if_neg h7, if_neg h8, if_pos h9], by rw [g_X11_ward, if_neg h1]⟩
          · show u_P L xs n d m_X11_ward 40 [(5, .null), (0, .ref 1), (1, .int w), (2, .int a), (3, .int b), (4, .int k)] [] S R _
            refine u_st rfl (fun _ => rfl) ?_
            refine u_st rfl (fun _ => rfl) ?_
            refine u_st rfl (fun _ => rfl) ?_
            refine u_st rfl (fun _ => rfl) ?_
            refine u_st rfl (fun _ => rfl) ?_
            refine u_st rfl (fun _ => rfl) ?_
            show u_P L xs n d m_X11_ward 58 [(6, .int (Int32.ofInt 1)), (5, .null), (0, .ref 1), (1, .int w), (2, .int a), (3, .int b), (4, .int k)] [.int (Int32.ofInt 0)] S R _
            exact u_retb rfl rfl ⟨_, rfl, rfl, by rw [f_X11_ward, if_neg h1, if_neg h6, if_neg h7, if_neg h8, if_neg h9], by rw [g_X11_ward, if_neg h1]⟩
noncomputable abbrev m_X11_keep : g_M := (g_cn 11, yX11_keep, cX11_keep, 1, (some .int), g_look2 ttX11_keep)
set_option maxRecDepth 20000 in
theorem mt_X11_keep : g_mt 144 = some m_X11_keep := rfl
noncomputable def f_X11_keep  (S : v_Sf) : Int32 := f_J6_bitCount_0f7a4 ((g_X7_copy 11 1 S) 1 0)
noncomputable def g_X11_keep  (S : v_Sf) : v_Sf := z_s (g_X7_copy 11 1 S) 0 14 (Int32.ofInt 1)
set_option maxRecDepth 4000 in
theorem c_X11_keep (L : Nat) (xs : Nat → Int32) (n d : Nat)  (S : v_Sf) (R : v_Rf) : u_P L xs n d m_X11_keep 0 (lv_args 0 [.ref 1]) [] S R (z_Q R (fun v S1 => f_X11_keep  S = v ∧ g_X11_keep  S = S1)) := by
  show u_P L xs n d m_X11_keep 0 [(0, .ref 1)] [] S R _
  refine u_st rfl (fun _ => rfl) ?_
  show u_P L xs n d m_X11_keep 1 [(0, .ref 1)] [.ref 1] S R _
  refine u_getr rfl v_tyC rfl ?_
  refine u_st rfl (fun _ => rfl) ?_
  show u_P L xs n d m_X11_keep 5 [(0, .ref 1)] [.ref 1, .ref 12] S R _
  refine u_getr rfl v_tyC rfl ?_
  show u_P L xs n d m_X11_keep 8 [(0, .ref 1)] [.ref 2, .ref 12] S R _
  refine u_cv (rest := []) rfl (by decide) mt_X7_copy rfl rfl rfl rfl (Nat.le_of_ble_eq_true rfl) (Nat.le_of_ble_eq_true rfl) (Nat.le_of_ble_eq_true rfl) (fun d' => c_X7_copy L xs n d' 11 (Or.inr (Or.inl rfl)) 1 (Or.inl rfl) S R) ?_
  rintro _ _ _ ⟨rfl, rfl, rfl⟩
  refine u_st rfl (fun _ => rfl) ?_
  refine u_st rfl (fun _ => rfl) ?_
  show u_P L xs n d m_X11_keep 13 [(0, .ref 1)] [.int (Int32.ofInt 1), .ref 1] (g_X7_copy 11 1 S) R _
  refine u_put rfl v_tyC rfl ?_
  refine u_st rfl (fun _ => rfl) ?_
  show u_P L xs n d m_X11_keep 17 [(0, .ref 1)] [.ref 1] (z_s (g_X7_copy 11 1 S) 0 14 (Int32.ofInt 1)) R _
  refine u_getr rfl v_tyC rfl ?_
  show u_P L xs n d m_X11_keep 20 [(0, .ref 1)] [.ref 2] (z_s (g_X7_copy 11 1 S) 0 14 (Int32.ofInt 1)) R _
  refine u_getE (v := (g_X7_copy 11 1 S) 1 0) rfl rfl rfl (z_sn (fun h => absurd h.1 (by decide))) ?_
  show u_P L xs n d m_X11_keep 23 [(0, .ref 1)] [.int ((g_X7_copy 11 1 S) 1 0)] (z_s (g_X7_copy 11 1 S) 0 14 (Int32.ofInt 1)) R _
  refine u_cs (ac := [.int ((g_X7_copy 11 1 S) 1 0)]) (rest := []) rfl (by decide) mt_J6_bitCount_0f7a4 (fun _ => rfl) (Nat.le_of_ble_eq_true rfl) (Nat.le_of_ble_eq_true rfl) (fun d' => c_J6_bitCount_0f7a4 L xs n d' ((g_X7_copy 11 1 S) 1 0) (z_s (g_X7_copy 11 1 S) 0 14 (Int32.ofInt 1)) R) ?_
  rintro _ _ _ ⟨_, rfl, rfl, rfl, rfl⟩
  show u_P L xs n d m_X11_keep 26 [(0, .ref 1)] [.int (f_J6_bitCount_0f7a4 ((g_X7_copy 11 1 S) 1 0))] (z_s (g_X7_copy 11 1 S) 0 14 (Int32.ofInt 1)) R _
  exact u_ret rfl rfl ⟨_, rfl, rfl, rfl, rfl⟩
noncomputable abbrev m_X11_undo : g_M := (g_cn 11, yX11_undo, cX11_undo, 3, (some .boolean), g_look2 ttX11_undo)
set_option maxRecDepth 20000 in
theorem mt_X11_undo : g_mt 145 = some m_X11_undo := rfl
noncomputable def D_X11_undo_22  (H22 : Int32 → v_Sf → Prop) (K : Int32 → v_Sf → Prop) (x1 : Int32) (S : v_Sf) : Prop := (((Int32.ofInt 6) ≤ x1 → K (Int32.ofInt 1) S) ∧ (¬ ((Int32.ofInt 6) ≤ x1) → ((0 ≤ x1.toInt ∧ x1.toInt < ((6 : Nat) : Int) → (0 ≤ x1.toInt → x1.toInt < 6 → (((S 10 x1.toInt.toNat) < (S ((33 + 2 * x1.toInt.toNat)) 1) → H22 (x1 + (Int32.ofInt 1)) S) ∧ (¬ ((S 10 x1.toInt.toNat) < (S ((33 + 2 * x1.toInt.toNat)) 1)) → (0 ≤ x1.toInt → x1.toInt < 6 → H22 (x1 + (Int32.ofInt 1)) (z_s S 10 x1.toInt.toNat (Int32.ofInt 0))))))) ∧ (¬ (0 ≤ x1.toInt ∧ x1.toInt < ((6 : Nat) : Int)) → (0 ≤ x1.toInt → x1.toInt < 6 → H22 (x1 + (Int32.ofInt 1)) (z_s S 10 x1.toInt.toNat (Int32.ofInt 0)))))))
noncomputable def D_X11_undo  (H22 : Int32 → v_Sf → Prop) (K : Int32 → v_Sf → Prop) (S : v_Sf) : Prop := (((¬ (S 0 14) = 0) → H22 (Int32.ofInt 0) (g_X7_copy 1 11 S)) ∧ (¬ (¬ (S 0 14) = 0) → K (Int32.ofInt 0) S))
set_option maxRecDepth 4000 in
theorem hd_X11_undo (L : Nat) (xs : Nat → Int32) {R : v_Rf} (hW : z_W R) (H22 : Int32 → v_Sf → Prop) (K : Int32 → v_Sf → Prop) (k22 : ∀ (x1 : Int32) (S : v_Sf), H22 x1 S → D_X11_undo_22 H22 K x1 S) : ∀ n, (∀ (d : Nat) (x1 : Int32) (S : v_Sf), H22 x1 S → u_P L xs n d m_X11_undo 22 [(0, .ref 1), (1, .int x1)] [] S R (z_Q R K)) ∧ (∀ (d : Nat) (j2 : Nat) (x1 : Int32) (S : v_Sf), H22 x1 S → u_P L xs n d m_X11_undo 22 [(0, .ref 1), (1, .int x1), (2, .ref j2)] [] S R (z_Q R K)) ∧ (∀ (d : Nat) (x1 : Int32) (S : v_Sf), H22 x1 S → u_P L xs n d m_X11_undo 22 [(0, .ref 1), (1, .int x1), (2, .null)] [] S R (z_Q R K)) := by
  intro n
  induction n using Nat.strongRecOn with
  | ind n ih =>
    refine ⟨?_, ?_, ?_⟩
    · intro d x1 S hD
      have hD := k22 x1 S hD
      unfold D_X11_undo_22 at hD
      show u_P L xs n d m_X11_undo 22 [(0, .ref 1), (1, .int x1)] [] S R _
      refine u_st1 rfl (fun _ => rfl) (fun m hm => ?_)
      refine u_st rfl (fun _ => rfl) ?_
      show u_P L xs m d m_X11_undo 25 [(0, .ref 1), (1, .int x1)] [.int (Int32.ofInt 6), .int x1] S R _
      refine u_ic_ge rfl (fun h1 => ?_) (fun h1 => ?_)
      · have hD := hD.1 h1
        show u_P L xs m d m_X11_undo 70 [(0, .ref 1), (1, .int x1)] [] S R _
        refine u_st rfl (fun _ => rfl) ?_
        show u_P L xs m d m_X11_undo 71 [(0, .ref 1), (1, .int x1)] [.int (Int32.ofInt 1)] S R _
        exact u_retb rfl rfl ⟨_, rfl, rfl, hD⟩
      · have hD := hD.2 h1
        show u_P L xs m d m_X11_undo 28 [(0, .ref 1), (1, .int x1)] [] S R _
        refine u_st rfl (fun _ => rfl) ?_
        refine u_st rfl (fun _ => rfl) ?_
        show u_P L xs m d m_X11_undo 30 [(0, .ref 1), (1, .int x1)] [.int x1, .ref 1] S R _
        refine u_cv (rest := []) rfl (by decide) mt_X11_wardAt v_tyC rfl rfl rfl (Nat.le_of_ble_eq_true rfl) (Nat.le_of_ble_eq_true rfl) (Nat.le_of_ble_eq_true rfl) (fun d' => c_X11_wardAt L xs m d' hW x1 S) ?_
        rintro _ _ _ ⟨rfl, rfl, ⟨h2, rfl⟩ | ⟨h2, rfl⟩⟩
        · have hD := hD.1 h2
          show u_P L xs m d m_X11_undo 33 [(0, .ref 1), (1, .int x1)] [.ref (((33 + 2 * x1.toInt.toNat)) + 1)] S R _
          refine u_st rfl (fun _ => rfl) ?_
          refine u_st rfl (fun _ => rfl) ?_
          refine u_st rfl (fun _ => rfl) ?_
          refine u_st rfl (fun _ => rfl) ?_
          show u_P L xs m d m_X11_undo 39 [(2, .ref (((33 + 2 * x1.toInt.toNat)) + 1)), (0, .ref 1), (1, .int x1)] [.ref 1] S R _
          refine u_getr rfl v_tyC rfl ?_
          show u_P L xs m d m_X11_undo 42 [(2, .ref (((33 + 2 * x1.toInt.toNat)) + 1)), (0, .ref 1), (1, .int x1)] [.ref 2] S R _
          refine u_getr rfl rfl rfl ?_
          refine u_st rfl (fun _ => rfl) ?_
          show u_P L xs m d m_X11_undo 46 [(2, .ref (((33 + 2 * x1.toInt.toNat)) + 1)), (0, .ref 1), (1, .int x1)] [.int x1, .ref 11] S R _
          refine u_ialdE (v := S 10 x1.toInt.toNat) rfl rfl rfl (fun b31 b32 => ?_)
          have hD := hD b31 b32
          show u_P L xs m d m_X11_undo 47 [(2, .ref (((33 + 2 * x1.toInt.toNat)) + 1)), (0, .ref 1), (1, .int x1)] [.int (S 10 x1.toInt.toNat)] S R _
          refine u_st rfl (fun _ => rfl) ?_
          show u_P L xs m d m_X11_undo 48 [(2, .ref (((33 + 2 * x1.toInt.toNat)) + 1)), (0, .ref 1), (1, .int x1)] [.ref (((33 + 2 * x1.toInt.toNat)) + 1), .int (S 10 x1.toInt.toNat)] S R _
          refine u_getE (v := S ((33 + 2 * x1.toInt.toNat)) 1) rfl (z_wd0 (z_wdi h2.1 h2.2)) rfl rfl ?_
          show u_P L xs m d m_X11_undo 51 [(2, .ref (((33 + 2 * x1.toInt.toNat)) + 1)), (0, .ref 1), (1, .int x1)] [.int (S ((33 + 2 * x1.toInt.toNat)) 1), .int (S 10 x1.toInt.toNat)] S R _
          refine u_ic_lt rfl (fun h4 => ?_) (fun h4 => ?_)
          · have hD := hD.1 h4
            show u_P L xs m d m_X11_undo 64 [(2, .ref (((33 + 2 * x1.toInt.toNat)) + 1)), (0, .ref 1), (1, .int x1)] [] S R _
            refine u_st rfl (fun _ => rfl) ?_
            refine u_st rfl (fun _ => rfl) ?_
            refine u_lc (b := [(0, .ref 1), (1, .int (x1 + (Int32.ofInt 1))), (2, .ref (((33 + 2 * x1.toInt.toNat)) + 1))]) (show ([1, 2, 0] : List Nat).Nodup by decide) (show ([0, 1, 2] : List Nat).Nodup by decide) (fun i => match i with | 0 => rfl | 1 => rfl | 2 => rfl | _ + 3 => rfl) ?_
            exact (ih m hm).2.1 d ((((33 + 2 * x1.toInt.toNat)) + 1)) (x1 + (Int32.ofInt 1)) S hD
          · have hD := hD.2 h4
            show u_P L xs m d m_X11_undo 54 [(2, .ref (((33 + 2 * x1.toInt.toNat)) + 1)), (0, .ref 1), (1, .int x1)] [] S R _
            refine u_st rfl (fun _ => rfl) ?_
            show u_P L xs m d m_X11_undo 55 [(2, .ref (((33 + 2 * x1.toInt.toNat)) + 1)), (0, .ref 1), (1, .int x1)] [.ref 1] S R _
            refine u_getr rfl v_tyC rfl ?_
            show u_P L xs m d m_X11_undo 58 [(2, .ref (((33 + 2 * x1.toInt.toNat)) + 1)), (0, .ref 1), (1, .int x1)] [.ref 2] S R _
            refine u_getr rfl rfl rfl ?_
            refine u_st rfl (fun _ => rfl) ?_
            refine u_st rfl (fun _ => rfl) ?_
            show u_P L xs m d m_X11_undo 63 [(2, .ref (((33 + 2 * x1.toInt.toNat)) + 1)), (0, .ref 1), (1, .int x1)] [.int (Int32.ofInt 0), .int x1, .ref 11] S R _
            refine u_iast rfl rfl (fun b51 b52 => ?_)
            have hD := hD b51 b52
            show u_P L xs m d m_X11_undo 64 [(2, .ref (((33 + 2 * x1.toInt.toNat)) + 1)), (0, .ref 1), (1, .int x1)] [] (z_s S 10 x1.toInt.toNat (Int32.ofInt 0)) R _
            refine u_st rfl (fun _ => rfl) ?_
            refine u_st rfl (fun _ => rfl) ?_
            refine u_lc (b := [(0, .ref 1), (1, .int (x1 + (Int32.ofInt 1))), (2, .ref (((33 + 2 * x1.toInt.toNat)) + 1))]) (show ([1, 2, 0] : List Nat).Nodup by decide) (show ([0, 1, 2] : List Nat).Nodup by decide) (fun i => match i with | 0 => rfl | 1 => rfl | 2 => rfl | _ + 3 => rfl) ?_
            exact (ih m hm).2.1 d ((((33 + 2 * x1.toInt.toNat)) + 1)) (x1 + (Int32.ofInt 1)) (z_s S 10 x1.toInt.toNat (Int32.ofInt 0)) hD
        · have hD := hD.2 h2
          show u_P L xs m d m_X11_undo 33 [(0, .ref 1), (1, .int x1)] [.null] S R _
          refine u_st rfl (fun _ => rfl) ?_
          refine u_st rfl (fun _ => rfl) ?_
          refine u_st rfl (fun _ => rfl) ?_
          refine u_st rfl (fun _ => rfl) ?_
          show u_P L xs m d m_X11_undo 55 [(2, .null), (0, .ref 1), (1, .int x1)] [.ref 1] S R _
          refine u_getr rfl v_tyC rfl ?_
          show u_P L xs m d m_X11_undo 58 [(2, .null), (0, .ref 1), (1, .int x1)] [.ref 2] S R _
          refine u_getr rfl rfl rfl ?_
          refine u_st rfl (fun _ => rfl) ?_
          refine u_st rfl (fun _ => rfl) ?_
          show u_P L xs m d m_X11_undo 63 [(2, .null), (0, .ref 1), (1, .int x1)] [.int (Int32.ofInt 0), .int x1, .ref 11] S R _
          refine u_iast rfl rfl (fun b61 b62 => ?_)
          have hD := hD b61 b62
          show u_P L xs m d m_X11_undo 64 [(2, .null), (0, .ref 1), (1, .int x1)] [] (z_s S 10 x1.toInt.toNat (Int32.ofInt 0)) R _
          refine u_st rfl (fun _ => rfl) ?_
          refine u_st rfl (fun _ => rfl) ?_
          refine u_lc (b := [(0, .ref 1), (1, .int (x1 + (Int32.ofInt 1))), (2, .null)]) (show ([1, 2, 0] : List Nat).Nodup by decide) (show ([0, 1, 2] : List Nat).Nodup by decide) (fun i => match i with | 0 => rfl | 1 => rfl | 2 => rfl | _ + 3 => rfl) ?_
          exact (ih m hm).2.2 d (x1 + (Int32.ofInt 1)) (z_s S 10 x1.toInt.toNat (Int32.ofInt 0)) hD
    · intro d j2 x1 S hD
      have hD := k22 x1 S hD
      unfold D_X11_undo_22 at hD
      show u_P L xs n d m_X11_undo 22 [(0, .ref 1), (1, .int x1), (2, .ref j2)] [] S R _
      refine u_st1 rfl (fun _ => rfl) (fun m hm => ?_)
      refine u_st rfl (fun _ => rfl) ?_
      show u_P L xs m d m_X11_undo 25 [(0, .ref 1), (1, .int x1), (2, .ref j2)] [.int (Int32.ofInt 6), .int x1] S R _
      refine u_ic_ge rfl (fun h1 => ?_) (fun h1 => ?_)
      · have hD := hD.1 h1
        show u_P L xs m d m_X11_undo 70 [(0, .ref 1), (1, .int x1), (2, .ref j2)] [] S R _
        refine u_st rfl (fun _ => rfl) ?_
        show u_P L xs m d m_X11_undo 71 [(0, .ref 1), (1, .int x1), (2, .ref j2)] [.int (Int32.ofInt 1)] S R _
        exact u_retb rfl rfl ⟨_, rfl, rfl, hD⟩
      · have hD := hD.2 h1
        show u_P L xs m d m_X11_undo 28 [(0, .ref 1), (1, .int x1), (2, .ref j2)] [] S R _
        refine u_st rfl (fun _ => rfl) ?_
        refine u_st rfl (fun _ => rfl) ?_
        show u_P L xs m d m_X11_undo 30 [(0, .ref 1), (1, .int x1), (2, .ref j2)] [.int x1, .ref 1] S R _
        refine u_cv (rest := []) rfl (by decide) mt_X11_wardAt v_tyC rfl rfl rfl (Nat.le_of_ble_eq_true rfl) (Nat.le_of_ble_eq_true rfl) (Nat.le_of_ble_eq_true rfl) (fun d' => c_X11_wardAt L xs m d' hW x1 S) ?_
        rintro _ _ _ ⟨rfl, rfl, ⟨h2, rfl⟩ | ⟨h2, rfl⟩⟩
        · have hD := hD.1 h2
          show u_P L xs m d m_X11_undo 33 [(0, .ref 1), (1, .int x1), (2, .ref j2)] [.ref (((33 + 2 * x1.toInt.toNat)) + 1)] S R _
          refine u_st rfl (fun _ => rfl) ?_
          refine u_st rfl (fun _ => rfl) ?_
          refine u_st rfl (fun _ => rfl) ?_
          refine u_st rfl (fun _ => rfl) ?_
          show u_P L xs m d m_X11_undo 39 [(2, .ref (((33 + 2 * x1.toInt.toNat)) + 1)), (0, .ref 1), (1, .int x1)] [.ref 1] S R _
          refine u_getr rfl v_tyC rfl ?_
          show u_P L xs m d m_X11_undo 42 [(2, .ref (((33 + 2 * x1.toInt.toNat)) + 1)), (0, .ref 1), (1, .int x1)] [.ref 2] S R _
          refine u_getr rfl rfl rfl ?_
          refine u_st rfl (fun _ => rfl) ?_
          show u_P L xs m d m_X11_undo 46 [(2, .ref (((33 + 2 * x1.toInt.toNat)) + 1)), (0, .ref 1), (1, .int x1)] [.int x1, .ref 11] S R _
          refine u_ialdE (v := S 10 x1.toInt.toNat) rfl rfl rfl (fun b31 b32 => ?_)
          have hD := hD b31 b32
          show u_P L xs m d m_X11_undo 47 [(2, .ref (((33 + 2 * x1.toInt.toNat)) + 1)), (0, .ref 1), (1, .int x1)] [.int (S 10 x1.toInt.toNat)] S R _
          refine u_st rfl (fun _ => rfl) ?_
          show u_P L xs m d m_X11_undo 48 [(2, .ref (((33 + 2 * x1.toInt.toNat)) + 1)), (0, .ref 1), (1, .int x1)] [.ref (((33 + 2 * x1.toInt.toNat)) + 1), .int (S 10 x1.toInt.toNat)] S R _
          refine u_getE (v := S ((33 + 2 * x1.toInt.toNat)) 1) rfl (z_wd0 (z_wdi h2.1 h2.2)) rfl rfl ?_
          show u_P L xs m d m_X11_undo 51 [(2, .ref (((33 + 2 * x1.toInt.toNat)) + 1)), (0, .ref 1), (1, .int x1)] [.int (S ((33 + 2 * x1.toInt.toNat)) 1), .int (S 10 x1.toInt.toNat)] S R _
          refine u_ic_lt rfl (fun h4 => ?_) (fun h4 => ?_)
          · have hD := hD.1 h4
            show u_P L xs m d m_X11_undo 64 [(2, .ref (((33 + 2 * x1.toInt.toNat)) + 1)), (0, .ref 1), (1, .int x1)] [] S R _
            refine u_st rfl (fun _ => rfl) ?_
            refine u_st rfl (fun _ => rfl) ?_
            refine u_lc (b := [(0, .ref 1), (1, .int (x1 + (Int32.ofInt 1))), (2, .ref (((33 + 2 * x1.toInt.toNat)) + 1))]) (show ([1, 2, 0] : List Nat).Nodup by decide) (show ([0, 1, 2] : List Nat).Nodup by decide) (fun i => match i with | 0 => rfl | 1 => rfl | 2 => rfl | _ + 3 => rfl) ?_
            exact (ih m hm).2.1 d ((((33 + 2 * x1.toInt.toNat)) + 1)) (x1 + (Int32.ofInt 1)) S hD
          · have hD := hD.2 h4
            show u_P L xs m d m_X11_undo 54 [(2, .ref (((33 + 2 * x1.toInt.toNat)) + 1)), (0, .ref 1), (1, .int x1)] [] S R _
            refine u_st rfl (fun _ => rfl) ?_
            show u_P L xs m d m_X11_undo 55 [(2, .ref (((33 + 2 * x1.toInt.toNat)) + 1)), (0, .ref 1), (1, .int x1)] [.ref 1] S R _
            refine u_getr rfl v_tyC rfl ?_
            show u_P L xs m d m_X11_undo 58 [(2, .ref (((33 + 2 * x1.toInt.toNat)) + 1)), (0, .ref 1), (1, .int x1)] [.ref 2] S R _
            refine u_getr rfl rfl rfl ?_
            refine u_st rfl (fun _ => rfl) ?_
            refine u_st rfl (fun _ => rfl) ?_
            show u_P L xs m d m_X11_undo 63 [(2, .ref (((33 + 2 * x1.toInt.toNat)) + 1)), (0, .ref 1), (1, .int x1)] [.int (Int32.ofInt 0), .int x1, .ref 11] S R _
            refine u_iast rfl rfl (fun b51 b52 => ?_)
            have hD := hD b51 b52
            show u_P L xs m d m_X11_undo 64 [(2, .ref (((33 + 2 * x1.toInt.toNat)) + 1)), (0, .ref 1), (1, .int x1)] [] (z_s S 10 x1.toInt.toNat (Int32.ofInt 0)) R _
            refine u_st rfl (fun _ => rfl) ?_
            refine u_st rfl (fun _ => rfl) ?_
            refine u_lc (b := [(0, .ref 1), (1, .int (x1 + (Int32.ofInt 1))), (2, .ref (((33 + 2 * x1.toInt.toNat)) + 1))]) (show ([1, 2, 0] : List Nat).Nodup by decide) (show ([0, 1, 2] : List Nat).Nodup by decide) (fun i => match i with | 0 => rfl | 1 => rfl | 2 => rfl | _ + 3 => rfl) ?_
            exact (ih m hm).2.1 d ((((33 + 2 * x1.toInt.toNat)) + 1)) (x1 + (Int32.ofInt 1)) (z_s S 10 x1.toInt.toNat (Int32.ofInt 0)) hD
        · have hD := hD.2 h2
          show u_P L xs m d m_X11_undo 33 [(0, .ref 1), (1, .int x1), (2, .ref j2)] [.null] S R _
          refine u_st rfl (fun _ => rfl) ?_
          refine u_st rfl (fun _ => rfl) ?_
          refine u_st rfl (fun _ => rfl) ?_
          refine u_st rfl (fun _ => rfl) ?_
          show u_P L xs m d m_X11_undo 55 [(2, .null), (0, .ref 1), (1, .int x1)] [.ref 1] S R _
          refine u_getr rfl v_tyC rfl ?_
          show u_P L xs m d m_X11_undo 58 [(2, .null), (0, .ref 1), (1, .int x1)] [.ref 2] S R _
          refine u_getr rfl rfl rfl ?_
          refine u_st rfl (fun _ => rfl) ?_
          refine u_st rfl (fun _ => rfl) ?_
          show u_P L xs m d m_X11_undo 63 [(2, .null), (0, .ref 1), (1, .int x1)] [.int (Int32.ofInt 0), .int x1, .ref 11] S R _
          refine u_iast rfl rfl (fun b61 b62 => ?_)
          have hD := hD b61 b62
          show u_P L xs m d m_X11_undo 64 [(2, .null), (0, .ref 1), (1, .int x1)] [] (z_s S 10 x1.toInt.toNat (Int32.ofInt 0)) R _
          refine u_st rfl (fun _ => rfl) ?_
          refine u_st rfl (fun _ => rfl) ?_
          refine u_lc (b := [(0, .ref 1), (1, .int (x1 + (Int32.ofInt 1))), (2, .null)]) (show ([1, 2, 0] : List Nat).Nodup by decide) (show ([0, 1, 2] : List Nat).Nodup by decide) (fun i => match i with | 0 => rfl | 1 => rfl | 2 => rfl | _ + 3 => rfl) ?_
          exact (ih m hm).2.2 d (x1 + (Int32.ofInt 1)) (z_s S 10 x1.toInt.toNat (Int32.ofInt 0)) hD
    · intro d x1 S hD
      have hD := k22 x1 S hD
      unfold D_X11_undo_22 at hD
      show u_P L xs n d m_X11_undo 22 [(0, .ref 1), (1, .int x1), (2, .null)] [] S R _
      refine u_st1 rfl (fun _ => rfl) (fun m hm => ?_)
      refine u_st rfl (fun _ => rfl) ?_
      show u_P L xs m d m_X11_undo 25 [(0, .ref 1), (1, .int x1), (2, .null)] [.int (Int32.ofInt 6), .int x1] S R _
      refine u_ic_ge rfl (fun h1 => ?_) (fun h1 => ?_)
      · have hD := hD.1 h1
        show u_P L xs m d m_X11_undo 70 [(0, .ref 1), (1, .int x1), (2, .null)] [] S R _
        refine u_st rfl (fun _ => rfl) ?_
        show u_P L xs m d m_X11_undo 71 [(0, .ref 1), (1, .int x1), (2, .null)] [.int (Int32.ofInt 1)] S R _
        exact u_retb rfl rfl ⟨_, rfl, rfl, hD⟩
      · have hD := hD.2 h1
        show u_P L xs m d m_X11_undo 28 [(0, .ref 1), (1, .int x1), (2, .null)] [] S R _
        refine u_st rfl (fun _ => rfl) ?_
        refine u_st rfl (fun _ => rfl) ?_
        show u_P L xs m d m_X11_undo 30 [(0, .ref 1), (1, .int x1), (2, .null)] [.int x1, .ref 1] S R _
        refine u_cv (rest := []) rfl (by decide) mt_X11_wardAt v_tyC rfl rfl rfl (Nat.le_of_ble_eq_true rfl) (Nat.le_of_ble_eq_true rfl) (Nat.le_of_ble_eq_true rfl) (fun d' => c_X11_wardAt L xs m d' hW x1 S) ?_
        rintro _ _ _ ⟨rfl, rfl, ⟨h2, rfl⟩ | ⟨h2, rfl⟩⟩
        · have hD := hD.1 h2
          show u_P L xs m d m_X11_undo 33 [(0, .ref 1), (1, .int x1), (2, .null)] [.ref (((33 + 2 * x1.toInt.toNat)) + 1)] S R _
          refine u_st rfl (fun _ => rfl) ?_
          refine u_st rfl (fun _ => rfl) ?_
          refine u_st rfl (fun _ => rfl) ?_
          refine u_st rfl (fun _ => rfl) ?_
          show u_P L xs m d m_X11_undo 39 [(2, .ref (((33 + 2 * x1.toInt.toNat)) + 1)), (0, .ref 1), (1, .int x1)] [.ref 1] S R _
          refine u_getr rfl v_tyC rfl ?_
          show u_P L xs m d m_X11_undo 42 [(2, .ref (((33 + 2 * x1.toInt.toNat)) + 1)), (0, .ref 1), (1, .int x1)] [.ref 2] S R _
          refine u_getr rfl rfl rfl ?_
          refine u_st rfl (fun _ => rfl) ?_
          show u_P L xs m d m_X11_undo 46 [(2, .ref (((33 + 2 * x1.toInt.toNat)) + 1)), (0, .ref 1), (1, .int x1)] [.int x1, .ref 11] S R _
          refine u_ialdE (v := S 10 x1.toInt.toNat) rfl rfl rfl (fun b31 b32 => ?_)
          have hD := hD b31 b32
          show u_P L xs m d m_X11_undo 47 [(2, .ref (((33 + 2 * x1.toInt.toNat)) + 1)), (0, .ref 1), (1, .int x1)] [.int (S 10 x1.toInt.toNat)] S R _
          refine u_st rfl (fun _ => rfl) ?_
          show u_P L xs m d m_X11_undo 48 [(2, .ref (((33 + 2 * x1.toInt.toNat)) + 1)), (0, .ref 1), (1, .int x1)] [.ref (((33 + 2 * x1.toInt.toNat)) + 1), .int (S 10 x1.toInt.toNat)] S R _
          refine u_getE (v := S ((33 + 2 * x1.toInt.toNat)) 1) rfl (z_wd0 (z_wdi h2.1 h2.2)) rfl rfl ?_
          show u_P L xs m d m_X11_undo 51 [(2, .ref (((33 + 2 * x1.toInt.toNat)) + 1)), (0, .ref 1), (1, .int x1)] [.int (S ((33 + 2 * x1.toInt.toNat)) 1), .int (S 10 x1.toInt.toNat)] S R _
          refine u_ic_lt rfl (fun h4 => ?_) (fun h4 => ?_)
          · have hD := hD.1 h4
            show u_P L xs m d m_X11_undo 64 [(2, .ref (((33 + 2 * x1.toInt.toNat)) + 1)), (0, .ref 1), (1, .int x1)] [] S R _
            refine u_st rfl (fun _ => rfl) ?_
            refine u_st rfl (fun _ => rfl) ?_
            refine u_lc (b := [(0, .ref 1), (1, .int (x1 + (Int32.ofInt 1))), (2, .ref (((33 + 2 * x1.toInt.toNat)) + 1))]) (show ([1, 2, 0] : List Nat).Nodup by decide) (show ([0, 1, 2] : List Nat).Nodup by decide) (fun i => match i with | 0 => rfl | 1 => rfl | 2 => rfl | _ + 3 => rfl) ?_
            exact (ih m hm).2.1 d ((((33 + 2 * x1.toInt.toNat)) + 1)) (x1 + (Int32.ofInt 1)) S hD
          · have hD := hD.2 h4
            show u_P L xs m d m_X11_undo 54 [(2, .ref (((33 + 2 * x1.toInt.toNat)) + 1)), (0, .ref 1), (1, .int x1)] [] S R _
            refine u_st rfl (fun _ => rfl) ?_
            show u_P L xs m d m_X11_undo 55 [(2, .ref (((33 + 2 * x1.toInt.toNat)) + 1)), (0, .ref 1), (1, .int x1)] [.ref 1] S R _
            refine u_getr rfl v_tyC rfl ?_
            show u_P L xs m d m_X11_undo 58 [(2, .ref (((33 + 2 * x1.toInt.toNat)) + 1)), (0, .ref 1), (1, .int x1)] [.ref 2] S R _
            refine u_getr rfl rfl rfl ?_
            refine u_st rfl (fun _ => rfl) ?_
            refine u_st rfl (fun _ => rfl) ?_
            show u_P L xs m d m_X11_undo 63 [(2, .ref (((33 + 2 * x1.toInt.toNat)) + 1)), (0, .ref 1), (1, .int x1)] [.int (Int32.ofInt 0), .int x1, .ref 11] S R _
            refine u_iast rfl rfl (fun b51 b52 => ?_)
            have hD := hD b51 b52
            show u_P L xs m d m_X11_undo 64 [(2, .ref (((33 + 2 * x1.toInt.toNat)) + 1)), (0, .ref 1), (1, .int x1)] [] (z_s S 10 x1.toInt.toNat (Int32.ofInt 0)) R _
            refine u_st rfl (fun _ => rfl) ?_
            refine u_st rfl (fun _ => rfl) ?_
            refine u_lc (b := [(0, .ref 1), (1, .int (x1 + (Int32.ofInt 1))), (2, .ref (((33 + 2 * x1.toInt.toNat)) + 1))]) (show ([1, 2, 0] : List Nat).Nodup by decide) (show ([0, 1, 2] : List Nat).Nodup by decide) (fun i => match i with | 0 => rfl | 1 => rfl | 2 => rfl | _ + 3 => rfl) ?_
            exact (ih m hm).2.1 d ((((33 + 2 * x1.toInt.toNat)) + 1)) (x1 + (Int32.ofInt 1)) (z_s S 10 x1.toInt.toNat (Int32.ofInt 0)) hD
        · have hD := hD.2 h2
          show u_P L xs m d m_X11_undo 33 [(0, .ref 1), (1, .int x1), (2, .null)] [.null] S R _
          refine u_st rfl (fun _ => rfl) ?_
          refine u_st rfl (fun _ => rfl) ?_
          refine u_st rfl (fun _ => rfl) ?_
          refine u_st rfl (fun _ => rfl) ?_
          show u_P L xs m d m_X11_undo 55 [(2, .null), (0, .ref 1), (1, .int x1)] [.ref 1] S R _
          refine u_getr rfl v_tyC rfl ?_
          show u_P L xs m d m_X11_undo 58 [(2, .null), (0, .ref 1), (1, .int x1)] [.ref 2] S R _
          refine u_getr rfl rfl rfl ?_
          refine u_st rfl (fun _ => rfl) ?_
          refine u_st rfl (fun _ => rfl) ?_
          show u_P L xs m d m_X11_undo 63 [(2, .null), (0, .ref 1), (1, .int x1)] [.int (Int32.ofInt 0), .int x1, .ref 11] S R _
          refine u_iast rfl rfl (fun b61 b62 => ?_)
          have hD := hD b61 b62
          show u_P L xs m d m_X11_undo 64 [(2, .null), (0, .ref 1), (1, .int x1)] [] (z_s S 10 x1.toInt.toNat (Int32.ofInt 0)) R _
          refine u_st rfl (fun _ => rfl) ?_
          refine u_st rfl (fun _ => rfl) ?_
          refine u_lc (b := [(0, .ref 1), (1, .int (x1 + (Int32.ofInt 1))), (2, .null)]) (show ([1, 2, 0] : List Nat).Nodup by decide) (show ([0, 1, 2] : List Nat).Nodup by decide) (fun i => match i with | 0 => rfl | 1 => rfl | 2 => rfl | _ + 3 => rfl) ?_
          exact (ih m hm).2.2 d (x1 + (Int32.ofInt 1)) (z_s S 10 x1.toInt.toNat (Int32.ofInt 0)) hD
set_option maxRecDepth 4000 in
theorem w_X11_undo (L : Nat) (xs : Nat → Int32) {R : v_Rf} (hW : z_W R) (H22 : Int32 → v_Sf → Prop) (K : Int32 → v_Sf → Prop) (k22 : ∀ (x1 : Int32) (S : v_Sf), H22 x1 S → D_X11_undo_22 H22 K x1 S) (n d : Nat) (S : v_Sf) (hD : D_X11_undo H22 K S) : u_P L xs n d m_X11_undo 0 (lv_args 0 [.ref 1]) [] S R (z_Q R K) := by
  unfold D_X11_undo at hD
  show u_P L xs n d m_X11_undo 0 [(0, .ref 1)] [] S R _
  refine u_st rfl (fun _ => rfl) ?_
  show u_P L xs n d m_X11_undo 1 [(0, .ref 1)] [.ref 1] S R _
  refine u_getE (v := S 0 14) rfl v_tyC rfl rfl ?_
  show u_P L xs n d m_X11_undo 4 [(0, .ref 1)] [.int (S 0 14)] S R _
  refine u_if_ne rfl (fun h1 => ?_) (fun h1 => ?_)
  · have hD := hD.1 h1
    show u_P L xs n d m_X11_undo 9 [(0, .ref 1)] [] S R _
    refine u_st rfl (fun _ => rfl) ?_
    show u_P L xs n d m_X11_undo 10 [(0, .ref 1)] [.ref 1] S R _
    refine u_getr rfl v_tyC rfl ?_
    refine u_st rfl (fun _ => rfl) ?_
    show u_P L xs n d m_X11_undo 14 [(0, .ref 1)] [.ref 1, .ref 2] S R _
    refine u_getr rfl v_tyC rfl ?_
    show u_P L xs n d m_X11_undo 17 [(0, .ref 1)] [.ref 12, .ref 2] S R _
    refine u_cv (rest := []) rfl (by decide) mt_X7_copy rfl rfl rfl rfl (Nat.le_of_ble_eq_true rfl) (Nat.le_of_ble_eq_true rfl) (Nat.le_of_ble_eq_true rfl) (fun d' => c_X7_copy L xs n d' 1 (Or.inl rfl) 11 (Or.inr (Or.inl rfl)) S R) ?_
    rintro _ _ _ ⟨rfl, rfl, rfl⟩
    refine u_st rfl (fun _ => rfl) ?_
    refine u_st rfl (fun _ => rfl) ?_
    refine u_lc (b := [(0, .ref 1), (1, .int (Int32.ofInt 0))]) (show ([1, 0] : List Nat).Nodup by decide) (show ([0, 1] : List Nat).Nodup by decide) (fun i => match i with | 0 => rfl | 1 => rfl | _ + 2 => rfl) ?_
    exact (hd_X11_undo L xs hW H22 K k22 n).1 d (Int32.ofInt 0) (g_X7_copy 1 11 S) hD
  · have hD := hD.2 h1
    show u_P L xs n d m_X11_undo 7 [(0, .ref 1)] [] S R _
    refine u_st rfl (fun _ => rfl) ?_
    show u_P L xs n d m_X11_undo 8 [(0, .ref 1)] [.int (Int32.ofInt 0)] S R _
    exact u_retb rfl rfl ⟨_, rfl, rfl, hD⟩
noncomputable def r_X11_undo_22  : Nat → Nat → v_Sf → Int32 × v_Sf
  | 0, k22, S => (Int32.ofInt 1, S)
  | r + 1, k22, S => (if 0 ≤ (z_i k22).toInt ∧ (z_i k22).toInt < ((6 : Nat) : Int) then (if (S 10 (z_i k22).toInt.toNat) < (S ((33 + 2 * (z_i k22).toInt.toNat)) 1) then r_X11_undo_22 r (k22 + 1) S else r_X11_undo_22 r (k22 + 1) (z_s S 10 (z_i k22).toInt.toNat (Int32.ofInt 0))) else r_X11_undo_22 r (k22 + 1) (z_s S 10 (z_i k22).toInt.toNat (Int32.ofInt 0)))
noncomputable def F_X11_undo  (S : v_Sf) : Int32 × v_Sf := (if ¬ (S 0 14) = 0 then r_X11_undo_22 (6 - 0) 0 (g_X7_copy 1 11 S) else (Int32.ofInt 0, S))
noncomputable def f_X11_undo  (S : v_Sf) : Int32 := (F_X11_undo  S).1
noncomputable def g_X11_undo  (S : v_Sf) : v_Sf := (F_X11_undo  S).2
theorem c_X11_undo (L : Nat) (xs : Nat → Int32) (n d : Nat) {R : v_Rf} (hW : z_W R) (S : v_Sf) : u_P L xs n d m_X11_undo 0 (lv_args 0 [.ref 1]) [] S R (z_Q R (fun v S1 => f_X11_undo  S = v ∧ g_X11_undo  S = S1)) := by
  refine w_X11_undo L xs hW (fun y1 T => ∃ (k22 : Nat), k22 ≤ 6 ∧ z_i k22 = y1 ∧ r_X11_undo_22 (6 - k22) k22 T = F_X11_undo  S) (fun v S1 => f_X11_undo  S = v ∧ g_X11_undo  S = S1) ?_ n d S ?_
  · rintro _ S1 ⟨k22, hkk, rfl, e⟩
    unfold D_X11_undo_22
    rcases Nat.lt_or_ge k22 (6) with hk | hk
    · rw [show 6 - k22 = (6 - (k22 + 1)) + 1 by omega, r_X11_undo_22] at e
      refine ⟨fun q1 => ?_, fun q1 => ?_⟩
      · exact absurd hk (Nat.not_lt.mpr (z_leB2 (B := 6) q1 (by decide) (by omega)))
      · refine ⟨fun q2 => ?_, fun q2 => ?_⟩
        · intro _ _
          refine ⟨fun q3 => ?_, fun q3 => ?_⟩
          · rw [if_pos q2, if_pos q3] at e
            exact ⟨(k22 + 1), by omega, (z_i1 k22).symm, e⟩
          · intro _ _
            rw [if_pos q2, if_neg q3] at e
            exact ⟨(k22 + 1), by omega, (z_i1 k22).symm, e⟩
        · intro _ _
          rw [if_neg q2] at e
          exact ⟨(k22 + 1), by omega, (z_i1 k22).symm, e⟩
    · rw [show 6 - k22 = 0 by omega, r_X11_undo_22] at e
      refine ⟨fun q4 => ?_, fun q4 => ?_⟩
      · have e1 := congrArg Prod.fst e.symm
        have e2 := congrArg Prod.snd e.symm
        exact ⟨e1, e2⟩
      · exact absurd hk (Nat.not_le.mpr (z_ltB2 (B := 6) q4 (by decide) (by omega)))
  · unfold D_X11_undo
    refine ⟨fun q5 => ?_, fun q5 => ?_⟩
    · have e : r_X11_undo_22 (6 - 0) 0 (g_X7_copy 1 11 S) = F_X11_undo  S := by rw [F_X11_undo, if_pos q5]
      exact ⟨0, by omega, rfl, e⟩
    · have e : (Int32.ofInt 0, S) = F_X11_undo  S := by rw [F_X11_undo, if_neg q5]
      have e1 := congrArg Prod.fst e.symm
      have e2 := congrArg Prod.snd e.symm
      exact ⟨e1, e2⟩
noncomputable abbrev m_X11_check : g_M := (g_cn 11, yX11_check, cX11_check, 5, (some .int), g_look2 ttX11_check)
set_option maxRecDepth 20000 in
theorem mt_X11_check : g_mt 146 = some m_X11_check := rfl
noncomputable def D_X11_check_27  (H27 : Int32 → Int32 → Int32 → v_Sf → Prop) (K : Int32 → v_Sf → Prop) (x1 : Int32) (x2 : Int32) (x3 : Int32) (S : v_Sf) : Prop := ((x1 ≤ x3 → K x2 (g_X8_empty S)) ∧ (¬ (x1 ≤ x3) → (((¬ x2 = (Int32.ofInt (-1))) → K x2 (g_X8_empty S)) ∧ (¬ (¬ x2 = (Int32.ofInt (-1))) → (((f_X7_hasGust 1 x3 S) = 0 → (((f_X8_at x3 S) = (Int32.ofInt 0) → H27 x1 x2 (x3 + (Int32.ofInt 1)) S) ∧ (¬ ((f_X8_at x3 S) = (Int32.ofInt 0)) → H27 x1 x3 (x3 + (Int32.ofInt 1)) S))) ∧ (¬ ((f_X7_hasGust 1 x3 S) = 0) → (0 ≤ x3.toInt → x3.toInt < 12 → (((f_X8_at x3 S) = (S 2 x3.toInt.toNat) → H27 x1 x2 (x3 + (Int32.ofInt 1)) S) ∧ (¬ ((f_X8_at x3 S) = (S 2 x3.toInt.toNat)) → H27 x1 x3 (x3 + (Int32.ofInt 1)) S)))))))))
noncomputable def D_X11_check (a : Int32) (H27 : Int32 → Int32 → Int32 → v_Sf → Prop) (K : Int32 → v_Sf → Prop) (S : v_Sf) : Prop := (((f_X11_within a (Int32.ofInt 12)) = 0 → K (Int32.ofInt (-2)) S) ∧ (¬ ((f_X11_within a (Int32.ofInt 12)) = 0) → ((a ≤ (S 45 1) → H27 a (Int32.ofInt (-1)) (Int32.ofInt 0) S) ∧ (¬ (a ≤ (S 45 1)) → K (Int32.ofInt (-2)) S))))
set_option maxRecDepth 4000 in
theorem hd_X11_check (L : Nat) (xs : Nat → Int32) {R : v_Rf} (a : Int32) (H27 : Int32 → Int32 → Int32 → v_Sf → Prop) (K : Int32 → v_Sf → Prop) (k27 : ∀ (x1 : Int32) (x2 : Int32) (x3 : Int32) (S : v_Sf), H27 x1 x2 x3 S → D_X11_check_27 H27 K x1 x2 x3 S) : ∀ n, (∀ (d : Nat) (x1 : Int32) (x2 : Int32) (x3 : Int32) (S : v_Sf), H27 x1 x2 x3 S → u_P L xs n d m_X11_check 27 [(0, .ref 1), (1, .int x1), (2, .int x2), (3, .int x3)] [] S R (z_Q R K)) ∧ (∀ (d : Nat) (j4 : Int32) (x1 : Int32) (x2 : Int32) (x3 : Int32) (S : v_Sf), H27 x1 x2 x3 S → u_P L xs n d m_X11_check 27 [(0, .ref 1), (1, .int x1), (2, .int x2), (3, .int x3), (4, .int j4)] [] S R (z_Q R K)) := by
  intro n
  induction n using Nat.strongRecOn with
  | ind n ih =>
    refine ⟨?_, ?_⟩
    · intro d x1 x2 x3 S hD
      have hD := k27 x1 x2 x3 S hD
      unfold D_X11_check_27 at hD
      show u_P L xs n d m_X11_check 27 [(0, .ref 1), (1, .int x1), (2, .int x2), (3, .int x3)] [] S R _
      refine u_st1 rfl (fun _ => rfl) (fun m hm => ?_)
      refine u_st rfl (fun _ => rfl) ?_
      show u_P L xs m d m_X11_check 29 [(0, .ref 1), (1, .int x1), (2, .int x2), (3, .int x3)] [.int x1, .int x3] S R _
      refine u_ic_ge rfl (fun h1 => ?_) (fun h1 => ?_)
      · have hD := hD.1 h1
        show u_P L xs m d m_X11_check 84 [(0, .ref 1), (1, .int x1), (2, .int x2), (3, .int x3)] [] S R _
        refine u_st rfl (fun _ => rfl) ?_
        show u_P L xs m d m_X11_check 85 [(0, .ref 1), (1, .int x1), (2, .int x2), (3, .int x3)] [.ref 1] S R _
        refine u_getr rfl v_tyC rfl ?_
        show u_P L xs m d m_X11_check 88 [(0, .ref 1), (1, .int x1), (2, .int x2), (3, .int x3)] [.ref 46] S R _
        refine u_cv (rest := []) rfl (by decide) mt_X8_empty rfl rfl rfl rfl (Nat.le_of_ble_eq_true rfl) (Nat.le_of_ble_eq_true rfl) (Nat.le_of_ble_eq_true rfl) (fun d' => c_X8_empty L xs m d' S R) ?_
        rintro _ _ _ ⟨rfl, rfl, rfl⟩
        refine u_st rfl (fun _ => rfl) ?_
        show u_P L xs m d m_X11_check 92 [(0, .ref 1), (1, .int x1), (2, .int x2), (3, .int x3)] [.int x2] (g_X8_empty S) R _
        exact u_ret rfl rfl ⟨_, rfl, rfl, hD⟩
      · have hD := hD.2 h1
        show u_P L xs m d m_X11_check 32 [(0, .ref 1), (1, .int x1), (2, .int x2), (3, .int x3)] [] S R _
        refine u_st rfl (fun _ => rfl) ?_
        refine u_st rfl (fun _ => rfl) ?_
        show u_P L xs m d m_X11_check 34 [(0, .ref 1), (1, .int x1), (2, .int x2), (3, .int x3)] [.int (Int32.ofInt (-1)), .int x2] S R _
        refine u_ic_ne rfl (fun h2 => ?_) (fun h2 => ?_)
        · have hD := hD.1 h2
          show u_P L xs m d m_X11_check 84 [(0, .ref 1), (1, .int x1), (2, .int x2), (3, .int x3)] [] S R _
          refine u_st rfl (fun _ => rfl) ?_
          show u_P L xs m d m_X11_check 85 [(0, .ref 1), (1, .int x1), (2, .int x2), (3, .int x3)] [.ref 1] S R _
          refine u_getr rfl v_tyC rfl ?_
          show u_P L xs m d m_X11_check 88 [(0, .ref 1), (1, .int x1), (2, .int x2), (3, .int x3)] [.ref 46] S R _
          refine u_cv (rest := []) rfl (by decide) mt_X8_empty rfl rfl rfl rfl (Nat.le_of_ble_eq_true rfl) (Nat.le_of_ble_eq_true rfl) (Nat.le_of_ble_eq_true rfl) (fun d' => c_X8_empty L xs m d' S R) ?_
          rintro _ _ _ ⟨rfl, rfl, rfl⟩
          refine u_st rfl (fun _ => rfl) ?_
          show u_P L xs m d m_X11_check 92 [(0, .ref 1), (1, .int x1), (2, .int x2), (3, .int x3)] [.int x2] (g_X8_empty S) R _
          exact u_ret rfl rfl ⟨_, rfl, rfl, hD⟩
        · have hD := hD.2 h2
          show u_P L xs m d m_X11_check 37 [(0, .ref 1), (1, .int x1), (2, .int x2), (3, .int x3)] [] S R _
          refine u_st rfl (fun _ => rfl) ?_
          show u_P L xs m d m_X11_check 38 [(0, .ref 1), (1, .int x1), (2, .int x2), (3, .int x3)] [.ref 1] S R _
          refine u_getr rfl v_tyC rfl ?_
          refine u_st rfl (fun _ => rfl) ?_
          show u_P L xs m d m_X11_check 42 [(0, .ref 1), (1, .int x1), (2, .int x2), (3, .int x3)] [.int x3, .ref 2] S R _
          refine u_cv (rest := []) rfl (by decide) mt_X7_hasGust rfl rfl rfl rfl (Nat.le_of_ble_eq_true rfl) (Nat.le_of_ble_eq_true rfl) (Nat.le_of_ble_eq_true rfl) (fun d' => c_X7_hasGust L xs m d' 1 (Or.inl rfl) x3 S R) ?_
          rintro _ _ _ ⟨_, rfl, rfl, rfl, rfl⟩
          show u_P L xs m d m_X11_check 45 [(0, .ref 1), (1, .int x1), (2, .int x2), (3, .int x3)] [.int (f_X7_hasGust 1 x3 S)] S R _
          refine u_if_eq rfl (fun h3 => ?_) (fun h3 => ?_)
          · have hD := hD.1 h3
            show u_P L xs m d m_X11_check 60 [(0, .ref 1), (1, .int x1), (2, .int x2), (3, .int x3)] [] S R _
            refine u_st rfl (fun _ => rfl) ?_
            refine u_st rfl (fun _ => rfl) ?_
            refine u_st rfl (fun _ => rfl) ?_
            show u_P L xs m d m_X11_check 64 [(4, .int (Int32.ofInt 0)), (0, .ref 1), (1, .int x1), (2, .int x2), (3, .int x3)] [.ref 1] S R _
            refine u_getr rfl v_tyC rfl ?_
            refine u_st rfl (fun _ => rfl) ?_
            show u_P L xs m d m_X11_check 68 [(4, .int (Int32.ofInt 0)), (0, .ref 1), (1, .int x1), (2, .int x2), (3, .int x3)] [.int x3, .ref 46] S R _
            refine u_cv (rest := []) rfl (by decide) mt_X8_at rfl rfl rfl rfl (Nat.le_of_ble_eq_true rfl) (Nat.le_of_ble_eq_true rfl) (Nat.le_of_ble_eq_true rfl) (fun d' => c_X8_at L xs m d' x3 S R) ?_
            rintro _ _ _ ⟨_, rfl, rfl, rfl, rfl⟩
            refine u_st rfl (fun _ => rfl) ?_
            show u_P L xs m d m_X11_check 73 [(4, .int (Int32.ofInt 0)), (0, .ref 1), (1, .int x1), (2, .int x2), (3, .int x3)] [.int (Int32.ofInt 0), .int (f_X8_at x3 S)] S R _
            refine u_ic_eq rfl (fun h4 => ?_) (fun h4 => ?_)
            · have hD := hD.1 h4
              show u_P L xs m d m_X11_check 78 [(4, .int (Int32.ofInt 0)), (0, .ref 1), (1, .int x1), (2, .int x2), (3, .int x3)] [] S R _
              refine u_st rfl (fun _ => rfl) ?_
              refine u_st rfl (fun _ => rfl) ?_
              refine u_lc (b := [(0, .ref 1), (1, .int x1), (2, .int x2), (3, .int (x3 + (Int32.ofInt 1))), (4, .int (Int32.ofInt 0))]) (show ([3, 4, 0, 1, 2] : List Nat).Nodup by decide) (show ([0, 1, 2, 3, 4] : List Nat).Nodup by decide) (fun i => match i with | 0 => rfl | 1 => rfl | 2 => rfl | 3 => rfl | 4 => rfl | _ + 5 => rfl) ?_
              exact (ih m hm).2 d (Int32.ofInt 0) x1 x2 (x3 + (Int32.ofInt 1)) S hD
            · have hD := hD.2 h4
              show u_P L xs m d m_X11_check 76 [(4, .int (Int32.ofInt 0)), (0, .ref 1), (1, .int x1), (2, .int x2), (3, .int x3)] [] S R _
              refine u_st rfl (fun _ => rfl) ?_
              refine u_st rfl (fun _ => rfl) ?_
              refine u_st rfl (fun _ => rfl) ?_
              refine u_st rfl (fun _ => rfl) ?_
              refine u_lc (b := [(0, .ref 1), (1, .int x1), (2, .int x3), (3, .int (x3 + (Int32.ofInt 1))), (4, .int (Int32.ofInt 0))]) (show ([3, 2, 4, 0, 1] : List Nat).Nodup by decide) (show ([0, 1, 2, 3, 4] : List Nat).Nodup by decide) (fun i => match i with | 0 => rfl | 1 => rfl | 2 => rfl | 3 => rfl | 4 => rfl | _ + 5 => rfl) ?_
              exact (ih m hm).2 d (Int32.ofInt 0) x1 x3 (x3 + (Int32.ofInt 1)) S hD
          · have hD := hD.2 h3
            show u_P L xs m d m_X11_check 48 [(0, .ref 1), (1, .int x1), (2, .int x2), (3, .int x3)] [] S R _
            refine u_st rfl (fun _ => rfl) ?_
            show u_P L xs m d m_X11_check 49 [(0, .ref 1), (1, .int x1), (2, .int x2), (3, .int x3)] [.ref 1] S R _
            refine u_getr rfl v_tyC rfl ?_
            show u_P L xs m d m_X11_check 52 [(0, .ref 1), (1, .int x1), (2, .int x2), (3, .int x3)] [.ref 2] S R _
            refine u_getr rfl rfl rfl ?_
            refine u_st rfl (fun _ => rfl) ?_
            show u_P L xs m d m_X11_check 56 [(0, .ref 1), (1, .int x1), (2, .int x2), (3, .int x3)] [.int x3, .ref 3] S R _
            refine u_ialdE (v := S 2 x3.toInt.toNat) rfl rfl rfl (fun b51 b52 => ?_)
            have hD := hD b51 b52
            show u_P L xs m d m_X11_check 57 [(0, .ref 1), (1, .int x1), (2, .int x2), (3, .int x3)] [.int (S 2 x3.toInt.toNat)] S R _
            refine u_st rfl (fun _ => rfl) ?_
            refine u_st rfl (fun _ => rfl) ?_
            refine u_st rfl (fun _ => rfl) ?_
            show u_P L xs m d m_X11_check 64 [(4, .int (S 2 x3.toInt.toNat)), (0, .ref 1), (1, .int x1), (2, .int x2), (3, .int x3)] [.ref 1] S R _
            refine u_getr rfl v_tyC rfl ?_
            refine u_st rfl (fun _ => rfl) ?_
            show u_P L xs m d m_X11_check 68 [(4, .int (S 2 x3.toInt.toNat)), (0, .ref 1), (1, .int x1), (2, .int x2), (3, .int x3)] [.int x3, .ref 46] S R _
            refine u_cv (rest := []) rfl (by decide) mt_X8_at rfl rfl rfl rfl (Nat.le_of_ble_eq_true rfl) (Nat.le_of_ble_eq_true rfl) (Nat.le_of_ble_eq_true rfl) (fun d' => c_X8_at L xs m d' x3 S R) ?_
            rintro _ _ _ ⟨_, rfl, rfl, rfl, rfl⟩
            refine u_st rfl (fun _ => rfl) ?_
            show u_P L xs m d m_X11_check 73 [(4, .int (S 2 x3.toInt.toNat)), (0, .ref 1), (1, .int x1), (2, .int x2), (3, .int x3)] [.int (S 2 x3.toInt.toNat), .int (f_X8_at x3 S)] S R _
            refine u_ic_eq rfl (fun h6 => ?_) (fun h6 => ?_)
            · have hD := hD.1 h6
              show u_P L xs m d m_X11_check 78 [(4, .int (S 2 x3.toInt.toNat)), (0, .ref 1), (1, .int x1), (2, .int x2), (3, .int x3)] [] S R _
              refine u_st rfl (fun _ => rfl) ?_
              refine u_st rfl (fun _ => rfl) ?_
              refine u_lc (b := [(0, .ref 1), (1, .int x1), (2, .int x2), (3, .int (x3 + (Int32.ofInt 1))), (4, .int (S 2 x3.toInt.toNat))]) (show ([3, 4, 0, 1, 2] : List Nat).Nodup by decide) (show ([0, 1, 2, 3, 4] : List Nat).Nodup by decide) (fun i => match i with | 0 => rfl | 1 => rfl | 2 => rfl | 3 => rfl | 4 => rfl | _ + 5 => rfl) ?_
              exact (ih m hm).2 d (S 2 x3.toInt.toNat) x1 x2 (x3 + (Int32.ofInt 1)) S hD
            · have hD := hD.2 h6
              show u_P L xs m d m_X11_check 76 [(4, .int (S 2 x3.toInt.toNat)), (0, .ref 1), (1, .int x1), (2, .int x2), (3, .int x3)] [] S R _
              refine u_st rfl (fun _ => rfl) ?_
              refine u_st rfl (fun _ => rfl) ?_
              refine u_st rfl (fun _ => rfl) ?_
              refine u_st rfl (fun _ => rfl) ?_
              refine u_lc (b := [(0, .ref 1), (1, .int x1), (2, .int x3), (3, .int (x3 + (Int32.ofInt 1))), (4, .int (S 2 x3.toInt.toNat))]) (show ([3, 2, 4, 0, 1] : List Nat).Nodup by decide) (show ([0, 1, 2, 3, 4] : List Nat).Nodup by decide) (fun i => match i with | 0 => rfl | 1 => rfl | 2 => rfl | 3 => rfl | 4 => rfl | _ + 5 => rfl) ?_
              exact (ih m hm).2 d (S 2 x3.toInt.toNat) x1 x3 (x3 + (Int32.ofInt 1)) S hD
    · intro d j4 x1 x2 x3 S hD
      have hD := k27 x1 x2 x3 S hD
      unfold D_X11_check_27 at hD
      show u_P L xs n d m_X11_check 27 [(0, .ref 1), (1, .int x1), (2, .int x2), (3, .int x3), (4, .int j4)] [] S R _
      refine u_st1 rfl (fun _ => rfl) (fun m hm => ?_)
      refine u_st rfl (fun _ => rfl) ?_
      show u_P L xs m d m_X11_check 29 [(0, .ref 1), (1, .int x1), (2, .int x2), (3, .int x3), (4, .int j4)] [.int x1, .int x3] S R _
      refine u_ic_ge rfl (fun h1 => ?_) (fun h1 => ?_)
      · have hD := hD.1 h1
        show u_P L xs m d m_X11_check 84 [(0, .ref 1), (1, .int x1), (2, .int x2), (3, .int x3), (4, .int j4)] [] S R _
        refine u_st rfl (fun _ => rfl) ?_
        show u_P L xs m d m_X11_check 85 [(0, .ref 1), (1, .int x1), (2, .int x2), (3, .int x3), (4, .int j4)] [.ref 1] S R _
        refine u_getr rfl v_tyC rfl ?_
        show u_P L xs m d m_X11_check 88 [(0, .ref 1), (1, .int x1), (2, .int x2), (3, .int x3), (4, .int j4)] [.ref 46] S R _
        refine u_cv (rest := []) rfl (by decide) mt_X8_empty rfl rfl rfl rfl (Nat.le_of_ble_eq_true rfl) (Nat.le_of_ble_eq_true rfl) (Nat.le_of_ble_eq_true rfl) (fun d' => c_X8_empty L xs m d' S R) ?_
        rintro _ _ _ ⟨rfl, rfl, rfl⟩
        refine u_st rfl (fun _ => rfl) ?_
        show u_P L xs m d m_X11_check 92 [(0, .ref 1), (1, .int x1), (2, .int x2), (3, .int x3), (4, .int j4)] [.int x2] (g_X8_empty S) R _
        exact u_ret rfl rfl ⟨_, rfl, rfl, hD⟩
      · have hD := hD.2 h1
        show u_P L xs m d m_X11_check 32 [(0, .ref 1), (1, .int x1), (2, .int x2), (3, .int x3), (4, .int j4)] [] S R _
        refine u_st rfl (fun _ => rfl) ?_
        refine u_st rfl (fun _ => rfl) ?_
        show u_P L xs m d m_X11_check 34 [(0, .ref 1), (1, .int x1), (2, .int x2), (3, .int x3), (4, .int j4)] [.int (Int32.ofInt (-1)), .int x2] S R _
        refine u_ic_ne rfl (fun h2 => ?_) (fun h2 => ?_)
        · have hD := hD.1 h2
          show u_P L xs m d m_X11_check 84 [(0, .ref 1), (1, .int x1), (2, .int x2), (3, .int x3), (4, .int j4)] [] S R _
          refine u_st rfl (fun _ => rfl) ?_
          show u_P L xs m d m_X11_check 85 [(0, .ref 1), (1, .int x1), (2, .int x2), (3, .int x3), (4, .int j4)] [.ref 1] S R _
          refine u_getr rfl v_tyC rfl ?_
          show u_P L xs m d m_X11_check 88 [(0, .ref 1), (1, .int x1), (2, .int x2), (3, .int x3), (4, .int j4)] [.ref 46] S R _
          refine u_cv (rest := []) rfl (by decide) mt_X8_empty rfl rfl rfl rfl (Nat.le_of_ble_eq_true rfl) (Nat.le_of_ble_eq_true rfl) (Nat.le_of_ble_eq_true rfl) (fun d' => c_X8_empty L xs m d' S R) ?_
          rintro _ _ _ ⟨rfl, rfl, rfl⟩
          refine u_st rfl (fun _ => rfl) ?_
          show u_P L xs m d m_X11_check 92 [(0, .ref 1), (1, .int x1), (2, .int x2), (3, .int x3), (4, .int j4)] [.int x2] (g_X8_empty S) R _
          exact u_ret rfl rfl ⟨_, rfl, rfl, hD⟩
        · have hD := hD.2 h2
          show u_P L xs m d m_X11_check 37 [(0, .ref 1), (1, .int x1), (2, .int x2), (3, .int x3), (4, .int j4)] [] S R _
          refine u_st rfl (fun _ => rfl) ?_
          show u_P L xs m d m_X11_check 38 [(0, .ref 1), (1, .int x1), (2, .int x2), (3, .int x3), (4, .int j4)] [.ref 1] S R _
          refine u_getr rfl v_tyC rfl ?_
          refine u_st rfl (fun _ => rfl) ?_
          show u_P L xs m d m_X11_check 42 [(0, .ref 1), (1, .int x1), (2, .int x2), (3, .int x3), (4, .int j4)] [.int x3, .ref 2] S R _
          refine u_cv (rest := []) rfl (by decide) mt_X7_hasGust rfl rfl rfl rfl (Nat.le_of_ble_eq_true rfl) (Nat.le_of_ble_eq_true rfl) (Nat.le_of_ble_eq_true rfl) (fun d' => c_X7_hasGust L xs m d' 1 (Or.inl rfl) x3 S R) ?_
          rintro _ _ _ ⟨_, rfl, rfl, rfl, rfl⟩
          show u_P L xs m d m_X11_check 45 [(0, .ref 1), (1, .int x1), (2, .int x2), (3, .int x3), (4, .int j4)] [.int (f_X7_hasGust 1 x3 S)] S R _
          refine u_if_eq rfl (fun h3 => ?_) (fun h3 => ?_)
          · have hD := hD.1 h3
            show u_P L xs m d m_X11_check 60 [(0, .ref 1), (1, .int x1), (2, .int x2), (3, .int x3), (4, .int j4)] [] S R _
            refine u_st rfl (fun _ => rfl) ?_
            refine u_st rfl (fun _ => rfl) ?_
            refine u_st rfl (fun _ => rfl) ?_
            show u_P L xs m d m_X11_check 64 [(4, .int (Int32.ofInt 0)), (0, .ref 1), (1, .int x1), (2, .int x2), (3, .int x3)] [.ref 1] S R _
            refine u_getr rfl v_tyC rfl ?_
            refine u_st rfl (fun _ => rfl) ?_
            show u_P L xs m d m_X11_check 68 [(4, .int (Int32.ofInt 0)), (0, .ref 1), (1, .int x1), (2, .int x2), (3, .int x3)] [.int x3, .ref 46] S R _
            refine u_cv (rest := []) rfl (by decide) mt_X8_at rfl rfl rfl rfl (Nat.le_of_ble_eq_true rfl) (Nat.le_of_ble_eq_true rfl) (Nat.le_of_ble_eq_true rfl) (fun d' => c_X8_at L xs m d' x3 S R) ?_
            rintro _ _ _ ⟨_, rfl, rfl, rfl, rfl⟩
            refine u_st rfl (fun _ => rfl) ?_
            show u_P L xs m d m_X11_check 73 [(4, .int (Int32.ofInt 0)), (0, .ref 1), (1, .int x1), (2, .int x2), (3, .int x3)] [.int (Int32.ofInt 0), .int (f_X8_at x3 S)] S R _
            refine u_ic_eq rfl (fun h4 => ?_) (fun h4 => ?_)
            · have hD := hD.1 h4
              show u_P L xs m d m_X11_check 78 [(4, .int (Int32.ofInt 0)), (0, .ref 1), (1, .int x1), (2, .int x2), (3, .int x3)] [] S R _
              refine u_st rfl (fun _ => rfl) ?_
              refine u_st rfl (fun _ => rfl) ?_
              refine u_lc (b := [(0, .ref 1), (1, .int x1), (2, .int x2), (3, .int (x3 + (Int32.ofInt 1))), (4, .int (Int32.ofInt 0))]) (show ([3, 4, 0, 1, 2] : List Nat).Nodup by decide) (show ([0, 1, 2, 3, 4] : List Nat).Nodup by decide) (fun i => match i with | 0 => rfl | 1 => rfl | 2 => rfl | 3 => rfl | 4 => rfl | _ + 5 => rfl) ?_
              exact (ih m hm).2 d (Int32.ofInt 0) x1 x2 (x3 + (Int32.ofInt 1)) S hD
            · have hD := hD.2 h4
              show u_P L xs m d m_X11_check 76 [(4, .int (Int32.ofInt 0)), (0, .ref 1), (1, .int x1), (2, .int x2), (3, .int x3)] [] S R _
              refine u_st rfl (fun _ => rfl) ?_
              refine u_st rfl (fun _ => rfl) ?_
              refine u_st rfl (fun _ => rfl) ?_
              refine u_st rfl (fun _ => rfl) ?_
              refine u_lc (b := [(0, .ref 1), (1, .int x1), (2, .int x3), (3, .int (x3 + (Int32.ofInt 1))), (4, .int (Int32.ofInt 0))]) (show ([3, 2, 4, 0, 1] : List Nat).Nodup by decide) (show ([0, 1, 2, 3, 4] : List Nat).Nodup by decide) (fun i => match i with | 0 => rfl | 1 => rfl | 2 => rfl | 3 => rfl | 4 => rfl | _ + 5 => rfl) ?_
              exact (ih m hm).2 d (Int32.ofInt 0) x1 x3 (x3 + (Int32.ofInt 1)) S hD
          · have hD := hD.2 h3
            show u_P L xs m d m_X11_check 48 [(0, .ref 1), (1, .int x1), (2, .int x2), (3, .int x3), (4, .int j4)] [] S R _
            refine u_st rfl (fun _ => rfl) ?_
            show u_P L xs m d m_X11_check 49 [(0, .ref 1), (1, .int x1), (2, .int x2), (3, .int x3), (4, .int j4)] [.ref 1] S R _
            refine u_getr rfl v_tyC rfl ?_
            show u_P L xs m d m_X11_check 52 [(0, .ref 1), (1, .int x1), (2, .int x2), (3, .int x3), (4, .int j4)] [.ref 2] S R _
            refine u_getr rfl rfl rfl ?_
            refine u_st rfl (fun _ => rfl) ?_
            show u_P L xs m d m_X11_check 56 [(0, .ref 1), (1, .int x1), (2, .int x2), (3, .int x3), (4, .int j4)] [.int x3, .ref 3] S R _
            refine u_ialdE (v := S 2 x3.toInt.toNat) rfl rfl rfl (fun b51 b52 => ?_)
            have hD := hD b51 b52
            show u_P L xs m d m_X11_check 57 [(0, .ref 1), (1, .int x1), (2, .int x2), (3, .int x3), (4, .int j4)] [.int (S 2 x3.toInt.toNat)] S R _
            refine u_st rfl (fun _ => rfl) ?_
            refine u_st rfl (fun _ => rfl) ?_
            refine u_st rfl (fun _ => rfl) ?_
            show u_P L xs m d m_X11_check 64 [(4, .int (S 2 x3.toInt.toNat)), (0, .ref 1), (1, .int x1), (2, .int x2), (3, .int x3)] [.ref 1] S R _
            refine u_getr rfl v_tyC rfl ?_
            refine u_st rfl (fun _ => rfl) ?_
            show u_P L xs m d m_X11_check 68 [(4, .int (S 2 x3.toInt.toNat)), (0, .ref 1), (1, .int x1), (2, .int x2), (3, .int x3)] [.int x3, .ref 46] S R _
            refine u_cv (rest := []) rfl (by decide) mt_X8_at rfl rfl rfl rfl (Nat.le_of_ble_eq_true rfl) (Nat.le_of_ble_eq_true rfl) (Nat.le_of_ble_eq_true rfl) (fun d' => c_X8_at L xs m d' x3 S R) ?_
            rintro _ _ _ ⟨_, rfl, rfl, rfl, rfl⟩
            refine u_st rfl (fun _ => rfl) ?_
            show u_P L xs m d m_X11_check 73 [(4, .int (S 2 x3.toInt.toNat)), (0, .ref 1), (1, .int x1), (2, .int x2), (3, .int x3)] [.int (S 2 x3.toInt.toNat), .int (f_X8_at x3 S)] S R _
            refine u_ic_eq rfl (fun h6 => ?_) (fun h6 => ?_)
            · have hD := hD.1 h6
              show u_P L xs m d m_X11_check 78 [(4, .int (S 2 x3.toInt.toNat)), (0, .ref 1), (1, .int x1), (2, .int x2), (3, .int x3)] [] S R _
              refine u_st rfl (fun _ => rfl) ?_
              refine u_st rfl (fun _ => rfl) ?_
              refine u_lc (b := [(0, .ref 1), (1, .int x1), (2, .int x2), (3, .int (x3 + (Int32.ofInt 1))), (4, .int (S 2 x3.toInt.toNat))]) (show ([3, 4, 0, 1, 2] : List Nat).Nodup by decide) (show ([0, 1, 2, 3, 4] : List Nat).Nodup by decide) (fun i => match i with | 0 => rfl | 1 => rfl | 2 => rfl | 3 => rfl | 4 => rfl | _ + 5 => rfl) ?_
              exact (ih m hm).2 d (S 2 x3.toInt.toNat) x1 x2 (x3 + (Int32.ofInt 1)) S hD
            · have hD := hD.2 h6
              show u_P L xs m d m_X11_check 76 [(4, .int (S 2 x3.toInt.toNat)), (0, .ref 1), (1, .int x1), (2, .int x2), (3, .int x3)] [] S R _
              refine u_st rfl (fun _ => rfl) ?_
              refine u_st rfl (fun _ => rfl) ?_
              refine u_st rfl (fun _ => rfl) ?_
              refine u_st rfl (fun _ => rfl) ?_
              refine u_lc (b := [(0, .ref 1), (1, .int x1), (2, .int x3), (3, .int (x3 + (Int32.ofInt 1))), (4, .int (S 2 x3.toInt.toNat))]) (show ([3, 2, 4, 0, 1] : List Nat).Nodup by decide) (show ([0, 1, 2, 3, 4] : List Nat).Nodup by decide) (fun i => match i with | 0 => rfl | 1 => rfl | 2 => rfl | 3 => rfl | 4 => rfl | _ + 5 => rfl) ?_
              exact (ih m hm).2 d (S 2 x3.toInt.toNat) x1 x3 (x3 + (Int32.ofInt 1)) S hD
set_option maxRecDepth 4000 in
theorem w_X11_check (L : Nat) (xs : Nat → Int32) {R : v_Rf} (a : Int32) (H27 : Int32 → Int32 → Int32 → v_Sf → Prop) (K : Int32 → v_Sf → Prop) (k27 : ∀ (x1 : Int32) (x2 : Int32) (x3 : Int32) (S : v_Sf), H27 x1 x2 x3 S → D_X11_check_27 H27 K x1 x2 x3 S) (n d : Nat) (S : v_Sf) (hD : D_X11_check a H27 K S) : u_P L xs n d m_X11_check 0 (lv_args 0 [.ref 1, .int a]) [] S R (z_Q R K) := by
  unfold D_X11_check at hD
  show u_P L xs n d m_X11_check 0 [(0, .ref 1), (1, .int a)] [] S R _
  refine u_st rfl (fun _ => rfl) ?_
  refine u_st rfl (fun _ => rfl) ?_
  show u_P L xs n d m_X11_check 3 [(0, .ref 1), (1, .int a)] [.int (Int32.ofInt 12), .int a] S R _
  refine u_cs (ac := [.int a, .int (Int32.ofInt 12)]) (rest := []) rfl (by decide) mt_X11_within (fun _ => rfl) (Nat.le_of_ble_eq_true rfl) (Nat.le_of_ble_eq_true rfl) (fun d' => c_X11_within L xs n d' a (Int32.ofInt 12) S R) ?_
  rintro _ _ _ ⟨_, rfl, rfl, rfl, rfl⟩
  show u_P L xs n d m_X11_check 6 [(0, .ref 1), (1, .int a)] [.int (f_X11_within a (Int32.ofInt 12))] S R _
  refine u_if_eq rfl (fun h1 => ?_) (fun h1 => ?_)
  · have hD := hD.1 h1
    show u_P L xs n d m_X11_check 20 [(0, .ref 1), (1, .int a)] [] S R _
    refine u_st rfl (fun _ => rfl) ?_
    show u_P L xs n d m_X11_check 22 [(0, .ref 1), (1, .int a)] [.int (Int32.ofInt (-2))] S R _
    exact u_ret rfl rfl ⟨_, rfl, rfl, hD⟩
  · have hD := hD.2 h1
    show u_P L xs n d m_X11_check 9 [(0, .ref 1), (1, .int a)] [] S R _
    refine u_st rfl (fun _ => rfl) ?_
    refine u_st rfl (fun _ => rfl) ?_
    show u_P L xs n d m_X11_check 11 [(0, .ref 1), (1, .int a)] [.ref 1, .int a] S R _
    refine u_getr rfl v_tyC rfl ?_
    show u_P L xs n d m_X11_check 14 [(0, .ref 1), (1, .int a)] [.ref 46, .int a] S R _
    refine u_getE (v := S 45 1) rfl rfl rfl rfl ?_
    show u_P L xs n d m_X11_check 17 [(0, .ref 1), (1, .int a)] [.int (S 45 1), .int a] S R _
    refine u_ic_le rfl (fun h2 => ?_) (fun h2 => ?_)
    · have hD := hD.1 h2
      show u_P L xs n d m_X11_check 23 [(0, .ref 1), (1, .int a)] [] S R _
      refine u_st rfl (fun _ => rfl) ?_
      refine u_st rfl (fun _ => rfl) ?_
      refine u_st rfl (fun _ => rfl) ?_
      refine u_st rfl (fun _ => rfl) ?_
      refine u_lc (b := [(0, .ref 1), (1, .int a), (2, .int (Int32.ofInt (-1))), (3, .int (Int32.ofInt 0))]) (show ([3, 2, 0, 1] : List Nat).Nodup by decide) (show ([0, 1, 2, 3] : List Nat).Nodup by decide) (fun i => match i with | 0 => rfl | 1 => rfl | 2 => rfl | 3 => rfl | _ + 4 => rfl) ?_
      exact (hd_X11_check L xs a H27 K k27 n).1 d a (Int32.ofInt (-1)) (Int32.ofInt 0) S hD
    · have hD := hD.2 h2
      show u_P L xs n d m_X11_check 20 [(0, .ref 1), (1, .int a)] [] S R _
      refine u_st rfl (fun _ => rfl) ?_
      show u_P L xs n d m_X11_check 22 [(0, .ref 1), (1, .int a)] [.int (Int32.ofInt (-2))] S R _
      exact u_ret rfl rfl ⟨_, rfl, rfl, hD⟩
noncomputable def r_X11_check_27 (x1 : Int32) : Nat → Nat → Int32 → v_Sf → Int32 × v_Sf
  | 0, k27, x2, S => (x2, g_X8_empty S)
  | r + 1, k27, x2, S => (if ¬ x2 = (Int32.ofInt (-1)) then (x2, g_X8_empty S) else (if (f_X7_hasGust 1 (z_i k27) S) = 0 then (if (f_X8_at (z_i k27) S) = (Int32.ofInt 0) then r_X11_check_27 x1 r (k27 + 1) x2 S else r_X11_check_27 x1 r (k27 + 1) (z_i k27) S) else (if (f_X8_at (z_i k27) S) = (S 2 (z_i k27).toInt.toNat) then r_X11_check_27 x1 r (k27 + 1) x2 S else r_X11_check_27 x1 r (k27 + 1) (z_i k27) S)))
noncomputable def F_X11_check (a : Int32) (S : v_Sf) : Int32 × v_Sf := (if (f_X11_within a (Int32.ofInt 12)) = 0 then (Int32.ofInt (-2), S) else (if a ≤ (S 45 1) then r_X11_check_27 a (a.toInt.toNat - 0) 0 (Int32.ofInt (-1)) S else (Int32.ofInt (-2), S)))
noncomputable def f_X11_check (a : Int32) (S : v_Sf) : Int32 := (F_X11_check a S).1
noncomputable def g_X11_check (a : Int32) (S : v_Sf) : v_Sf := (F_X11_check a S).2
theorem c_X11_check (L : Nat) (xs : Nat → Int32) (n d : Nat) (a : Int32) (S : v_Sf) (R : v_Rf) : u_P L xs n d m_X11_check 0 (lv_args 0 [.ref 1, .int a]) [] S R (z_Q R (fun v S1 => f_X11_check a S = v ∧ g_X11_check a S = S1)) := by
  refine w_X11_check L xs a (fun y1 y2 y3 T => ∃ (k27 : Nat), k27 ≤ a.toInt.toNat ∧ z_i k27 = y3 ∧ a = y1 ∧ r_X11_check_27 a (a.toInt.toNat - k27) k27 y2 T = F_X11_check a S) (fun v S1 => f_X11_check a S = v ∧ g_X11_check a S = S1) ?_ n d S ?_
  · rintro _ x2 _ S1 ⟨k27, hkk, rfl, rfl, e⟩
    unfold D_X11_check_27
    rcases Nat.lt_or_ge k27 (a.toInt.toNat) with hk | hk
    · rw [show a.toInt.toNat - k27 = (a.toInt.toNat - (k27 + 1)) + 1 by omega, r_X11_check_27] at e
      refine ⟨fun q1 => ?_, fun q1 => ?_⟩
      · exact absurd hk (Nat.not_lt.mpr (z_leV q1 (by omega)))
      · refine ⟨fun q2 => ?_, fun q2 => ?_⟩
        · rw [if_pos q2] at e
          have e1 := congrArg Prod.fst e.symm
          have e2 := congrArg Prod.snd e.symm
          exact ⟨e1, e2⟩
        · refine ⟨fun q3 => ?_, fun q3 => ?_⟩
          · refine ⟨fun q4 => ?_, fun q4 => ?_⟩
            · rw [if_neg q2, if_pos q3, if_pos q4] at e
              exact ⟨(k27 + 1), by omega, (z_i1 k27).symm, rfl, e⟩
            · rw [if_neg q2, if_pos q3, if_neg q4] at e
              exact ⟨(k27 + 1), by omega, (z_i1 k27).symm, rfl, e⟩
          · intro _ _
            refine ⟨fun q5 => ?_, fun q5 => ?_⟩
            · rw [if_neg q2, if_neg q3, if_pos q5] at e
              exact ⟨(k27 + 1), by omega, (z_i1 k27).symm, rfl, e⟩
            · rw [if_neg q2, if_neg q3, if_neg q5] at e
              exact ⟨(k27 + 1), by omega, (z_i1 k27).symm, rfl, e⟩
    · rw [show a.toInt.toNat - k27 = 0 by omega, r_X11_check_27] at e
      refine ⟨fun q6 => ?_, fun q6 => ?_⟩
      · have e1 := congrArg Prod.fst e.symm
        have e2 := congrArg Prod.snd e.symm
        exact ⟨e1, e2⟩
      · exact absurd hk (Nat.not_le.mpr (z_ltV q6 (by omega)))
  · unfold D_X11_check
    refine ⟨fun q7 => ?_, fun q7 => ?_⟩
    · have e : (Int32.ofInt (-2), S) = F_X11_check a S := by rw [F_X11_check, if_pos q7]
      have e1 := congrArg Prod.fst e.symm
      have e2 := congrArg Prod.snd e.symm
      exact ⟨e1, e2⟩
    · refine ⟨fun q8 => ?_, fun q8 => ?_⟩
      · have e : r_X11_check_27 a (a.toInt.toNat - 0) 0 (Int32.ofInt (-1)) S = F_X11_check a S := by rw [F_X11_check, if_neg q7, if_pos q8]
        exact ⟨0, by omega, rfl, rfl, e⟩
      · have e : (Int32.ofInt (-2), S) = F_X11_check a S := by rw [F_X11_check, if_neg q7, if_neg q8]
        have e1 := congrArg Prod.fst e.symm
        have e2 := congrArg Prod.snd e.symm
        exact ⟨e1, e2⟩
end PrtS42l
