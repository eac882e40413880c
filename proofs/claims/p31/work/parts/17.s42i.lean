section PrtS42i
noncomputable abbrev m_X0_weaken : g_M := (g_cn 0, yX0_weaken, cX0_weaken, 4, none, g_look2 ttX0_weaken)
set_option maxRecDepth 20000 in
theorem mt_X0_weaken : g_mt 4 = some m_X0_weaken := rfl
noncomputable def D_X0_weaken_26 (c : Nat) (s : Nat) (H26 : Int32 → v_Sf → Prop) (K : v_Sf → Prop) (x3 : Int32) (S : v_Sf) : Prop := (((Int32.ofInt 12) ≤ x3 → K S) ∧ (¬ ((Int32.ofInt 12) ≤ x3) → (((f_X7_hasGust s x3 S) = 0 → H26 (x3 + (Int32.ofInt 1)) S) ∧ (¬ ((f_X7_hasGust s x3 S) = 0) → (0 ≤ x3.toInt → x3.toInt < 12 → (0 ≤ x3.toInt → x3.toInt < 12 → H26 (x3 + (Int32.ofInt 1)) (z_s (g_X3_ofGust c s x3 (Int32.ofInt 103) S) (s + 1) x3.toInt.toNat (z_max (Int32.ofInt 0) ((S (s + 1) x3.toInt.toNat) - (f_X3_ofGust c s x3 (Int32.ofInt 103) S))))))))))
noncomputable def D_X0_weaken (c : Nat) (s : Nat) (H26 : Int32 → v_Sf → Prop) (K : v_Sf → Prop) (S : v_Sf) : Prop := ((((S s 11) - (S s 11) / (Int32.ofInt 12) * (Int32.ofInt 12)) = (Int32.ofInt 11) → H26 (Int32.ofInt 0) S) ∧ (¬ (((S s 11) - (S s 11) / (Int32.ofInt 12) * (Int32.ofInt 12)) = (Int32.ofInt 11)) → ((((S s 11) - (S s 11) / (Int32.ofInt 12) * (Int32.ofInt 12)) = 0 → H26 (Int32.ofInt 0) S) ∧ (¬ (((S s 11) - (S s 11) / (Int32.ofInt 12) * (Int32.ofInt 12)) = 0) → ((((S s 11) - (S s 11) / (Int32.ofInt 12) * (Int32.ofInt 12)) = (Int32.ofInt 1) → H26 (Int32.ofInt 0) S) ∧ (¬ (((S s 11) - (S s 11) / (Int32.ofInt 12) * (Int32.ofInt 12)) = (Int32.ofInt 1)) → K S))))))
set_option maxRecDepth 4000 in
theorem hd_X0_weaken (L : Nat) (xs : Nat → Int32) {R : v_Rf} (hW : z_W R) {c : Nat} (hL : R 50 2 = some (c + 1)) (hc : z_cd c) (s : Nat) (hs : z_st s) (H26 : Int32 → v_Sf → Prop) (K : v_Sf → Prop) (k26 : ∀ (x3 : Int32) (S : v_Sf), H26 x3 S → D_X0_weaken_26 c s H26 K x3 S) : ∀ n, (∀ (d : Nat) (j2 : Int32) (x3 : Int32) (S : v_Sf), H26 x3 S → u_P L xs n d m_X0_weaken 26 [(0, .ref 76), (1, .ref (s + 1)), (2, .int j2), (3, .int x3)] [] S R (z_V R K)) := by
  intro n
  induction n using Nat.strongRecOn with
  | ind n ih =>
    intro d j2 x3 S hD
    have hD := k26 x3 S hD
    unfold D_X0_weaken_26 at hD
    show u_P L xs n d m_X0_weaken 26 [(0, .ref 76), (1, .ref (s + 1)), (2, .int j2), (3, .int x3)] [] S R _
    refine u_st1 rfl (fun _ => rfl) (fun m hm => ?_)
    refine u_st rfl (fun _ => rfl) ?_
    show u_P L xs m d m_X0_weaken 29 [(0, .ref 76), (1, .ref (s + 1)), (2, .int j2), (3, .int x3)] [.int (Int32.ofInt 12), .int x3] S R _
    refine u_ic_ge rfl (fun h1 => ?_) (fun h1 => ?_)
    · have hD := hD.1 h1
      show u_P L xs m d m_X0_weaken 74 [(0, .ref 76), (1, .ref (s + 1)), (2, .int j2), (3, .int x3)] [] S R _
      exact u_ret rfl rfl ⟨rfl, rfl, hD⟩
    · have hD := hD.2 h1
      show u_P L xs m d m_X0_weaken 32 [(0, .ref 76), (1, .ref (s + 1)), (2, .int j2), (3, .int x3)] [] S R _
      refine u_st rfl (fun _ => rfl) ?_
      refine u_st rfl (fun _ => rfl) ?_
      show u_P L xs m d m_X0_weaken 34 [(0, .ref 76), (1, .ref (s + 1)), (2, .int j2), (3, .int x3)] [.int x3, .ref (s + 1)] S R _
      refine u_cv (rest := []) rfl (by decide) mt_X7_hasGust (z_st0 hs) rfl rfl rfl (Nat.le_of_ble_eq_true rfl) (Nat.le_of_ble_eq_true rfl) (Nat.le_of_ble_eq_true rfl) (fun d' => c_X7_hasGust L xs m d' s hs x3 S R) ?_
      rintro _ _ _ ⟨_, rfl, rfl, rfl, rfl⟩
      show u_P L xs m d m_X0_weaken 37 [(0, .ref 76), (1, .ref (s + 1)), (2, .int j2), (3, .int x3)] [.int (f_X7_hasGust s x3 S)] S R _
      refine u_if_eq rfl (fun h2 => ?_) (fun h2 => ?_)
      · have hD := hD.1 h2
        show u_P L xs m d m_X0_weaken 68 [(0, .ref 76), (1, .ref (s + 1)), (2, .int j2), (3, .int x3)] [] S R _
        refine u_st rfl (fun _ => rfl) ?_
        refine u_st rfl (fun _ => rfl) ?_
        refine u_lc (b := [(0, .ref 76), (1, .ref (s + 1)), (2, .int j2), (3, .int (x3 + (Int32.ofInt 1)))]) (show ([3, 0, 1, 2] : List Nat).Nodup by decide) (show ([0, 1, 2, 3] : List Nat).Nodup by decide) (fun i => match i with | 0 => rfl | 1 => rfl | 2 => rfl | 3 => rfl | _ + 4 => rfl) ?_
        exact (ih m hm) d j2 (x3 + (Int32.ofInt 1)) S hD
      · have hD := hD.2 h2
        show u_P L xs m d m_X0_weaken 40 [(0, .ref 76), (1, .ref (s + 1)), (2, .int j2), (3, .int x3)] [] S R _
        refine u_st rfl (fun _ => rfl) ?_
        show u_P L xs m d m_X0_weaken 41 [(0, .ref 76), (1, .ref (s + 1)), (2, .int j2), (3, .int x3)] [.ref (s + 1)] S R _
        refine u_getr rfl (z_st0 hs) rfl ?_
        refine u_st rfl (fun _ => rfl) ?_
        refine u_st rfl (fun _ => rfl) ?_
        refine u_st rfl (fun _ => rfl) ?_
        show u_P L xs m d m_X0_weaken 47 [(0, .ref 76), (1, .ref (s + 1)), (2, .int j2), (3, .int x3)] [.ref (s + 1), .int (Int32.ofInt 0), .int x3, .ref (s + 2)] S R _
        refine u_getr rfl (z_st0 hs) rfl ?_
        refine u_st rfl (fun _ => rfl) ?_
        show u_P L xs m d m_X0_weaken 51 [(0, .ref 76), (1, .ref (s + 1)), (2, .int j2), (3, .int x3)] [.int x3, .ref (s + 2), .int (Int32.ofInt 0), .int x3, .ref (s + 2)] S R _
        refine u_ialdE (v := S (s + 1) x3.toInt.toNat) rfl (z_st1 hs) rfl (fun b31 b32 => ?_)
        have hD := hD b31 b32
        show u_P L xs m d m_X0_weaken 52 [(0, .ref 76), (1, .ref (s + 1)), (2, .int j2), (3, .int x3)] [.int (S (s + 1) x3.toInt.toNat), .int (Int32.ofInt 0), .int x3, .ref (s + 2)] S R _
        refine u_st rfl (fun _ => rfl) ?_
        show u_P L xs m d m_X0_weaken 53 [(0, .ref 76), (1, .ref (s + 1)), (2, .int j2), (3, .int x3)] [.ref 76, .int (S (s + 1) x3.toInt.toNat), .int (Int32.ofInt 0), .int x3, .ref (s + 2)] S R _
        refine u_getr rfl rfl rfl ?_
        refine u_st rfl (fun _ => rfl) ?_
        refine u_st rfl (fun _ => rfl) ?_
        refine u_st rfl (fun _ => rfl) ?_
        show u_P L xs m d m_X0_weaken 60 [(0, .ref 76), (1, .ref (s + 1)), (2, .int j2), (3, .int x3)] [.int (Int32.ofInt 103), .int x3, .ref (s + 1), .ref 51, .int (S (s + 1) x3.toInt.toNat), .int (Int32.ofInt 0), .int x3, .ref (s + 2)] S R _
        refine u_cv (rest := [.int (S (s + 1) x3.toInt.toNat), .int (Int32.ofInt 0), .int x3, .ref (s + 2)]) rfl (by decide) mt_X3_ofGust rfl rfl rfl rfl (Nat.le_of_ble_eq_true rfl) (Nat.le_of_ble_eq_true rfl) (Nat.le_of_ble_eq_true rfl) (fun d' => c_X3_ofGust L xs m d' hW hL hc s hs x3 (Int32.ofInt 103) S) ?_
        rintro _ _ _ ⟨_, rfl, rfl, rfl, rfl⟩
        refine u_st rfl (fun _ => rfl) ?_
        show u_P L xs m d m_X0_weaken 64 [(0, .ref 76), (1, .ref (s + 1)), (2, .int j2), (3, .int x3)] [.int ((S (s + 1) x3.toInt.toNat) - (f_X3_ofGust c s x3 (Int32.ofInt 103) S)), .int (Int32.ofInt 0), .int x3, .ref (s + 2)] (g_X3_ofGust c s x3 (Int32.ofInt 103) S) R _
        refine u_max rfl ?_
        show u_P L xs m d m_X0_weaken 67 [(0, .ref 76), (1, .ref (s + 1)), (2, .int j2), (3, .int x3)] [.int (z_max (Int32.ofInt 0) ((S (s + 1) x3.toInt.toNat) - (f_X3_ofGust c s x3 (Int32.ofInt 103) S))), .int x3, .ref (s + 2)] (g_X3_ofGust c s x3 (Int32.ofInt 103) S) R _
        refine u_iast rfl (z_st1 hs) (fun b41 b42 => ?_)
        have hD := hD b41 b42
        show u_P L xs m d m_X0_weaken 68 [(0, .ref 76), (1, .ref (s + 1)), (2, .int j2), (3, .int x3)] [] (z_s (g_X3_ofGust c s x3 (Int32.ofInt 103) S) (s + 1) x3.toInt.toNat (z_max (Int32.ofInt 0) ((S (s + 1) x3.toInt.toNat) - (f_X3_ofGust c s x3 (Int32.ofInt 103) S)))) R _
        refine u_st rfl (fun _ => rfl) ?_
        refine u_st rfl (fun _ => rfl) ?_
        refine u_lc (b := [(0, .ref 76), (1, .ref (s + 1)), (2, .int j2), (3, .int (x3 + (Int32.ofInt 1)))]) (show ([3, 0, 1, 2] : List Nat).Nodup by decide) (show ([0, 1, 2, 3] : List Nat).Nodup by decide) (fun i => match i with | 0 => rfl | 1 => rfl | 2 => rfl | 3 => rfl | _ + 4 => rfl) ?_
        exact (ih m hm) d j2 (x3 + (Int32.ofInt 1)) (z_s (g_X3_ofGust c s x3 (Int32.ofInt 103) S) (s + 1) x3.toInt.toNat (z_max (Int32.ofInt 0) ((S (s + 1) x3.toInt.toNat) - (f_X3_ofGust c s x3 (Int32.ofInt 103) S)))) hD
set_option maxRecDepth 4000 in
theorem w_X0_weaken (L : Nat) (xs : Nat → Int32) {R : v_Rf} (hW : z_W R) {c : Nat} (hL : R 50 2 = some (c + 1)) (hc : z_cd c) (s : Nat) (hs : z_st s) (H26 : Int32 → v_Sf → Prop) (K : v_Sf → Prop) (k26 : ∀ (x3 : Int32) (S : v_Sf), H26 x3 S → D_X0_weaken_26 c s H26 K x3 S) (n d : Nat) (S : v_Sf) (hD : D_X0_weaken c s H26 K S) : u_P L xs n d m_X0_weaken 0 (lv_args 0 [.ref 76, .ref (s + 1)]) [] S R (z_V R K) := by
  unfold D_X0_weaken at hD
  show u_P L xs n d m_X0_weaken 0 [(0, .ref 76), (1, .ref (s + 1))] [] S R _
  refine u_st rfl (fun _ => rfl) ?_
  show u_P L xs n d m_X0_weaken 1 [(0, .ref 76), (1, .ref (s + 1))] [.ref (s + 1)] S R _
  refine u_getE (v := S s 11) rfl (z_st0 hs) rfl rfl ?_
  refine u_st rfl (fun _ => rfl) ?_
  show u_P L xs n d m_X0_weaken 6 [(0, .ref 76), (1, .ref (s + 1))] [.int (Int32.ofInt 12), .int (S s 11)] S R _
  refine u_irem rfl (fun b1 => ?_)
  refine u_st rfl (fun _ => rfl) ?_
  refine u_st rfl (fun _ => rfl) ?_
  refine u_st rfl (fun _ => rfl) ?_
  show u_P L xs n d m_X0_weaken 11 [(2, .int ((S s 11) - (S s 11) / (Int32.ofInt 12) * (Int32.ofInt 12))), (0, .ref 76), (1, .ref (s + 1))] [.int (Int32.ofInt 11), .int ((S s 11) - (S s 11) / (Int32.ofInt 12) * (Int32.ofInt 12))] S R _
  refine u_ic_eq rfl (fun h2 => ?_) (fun h2 => ?_)
  · have hD := hD.1 h2
    show u_P L xs n d m_X0_weaken 24 [(2, .int ((S s 11) - (S s 11) / (Int32.ofInt 12) * (Int32.ofInt 12))), (0, .ref 76), (1, .ref (s + 1))] [] S R _
    refine u_st rfl (fun _ => rfl) ?_
    refine u_st rfl (fun _ => rfl) ?_
    refine u_lc (b := [(0, .ref 76), (1, .ref (s + 1)), (2, .int ((S s 11) - (S s 11) / (Int32.ofInt 12) * (Int32.ofInt 12))), (3, .int (Int32.ofInt 0))]) (show ([3, 2, 0, 1] : List Nat).Nodup by decide) (show ([0, 1, 2, 3] : List Nat).Nodup by decide) (fun i => match i with | 0 => rfl | 1 => rfl | 2 => rfl | 3 => rfl | _ + 4 => rfl) ?_
    exact (hd_X0_weaken L xs hW hL hc s hs H26 K k26 n) d ((S s 11) - (S s 11) / (Int32.ofInt 12) * (Int32.ofInt 12)) (Int32.ofInt 0) S hD
  · have hD := hD.2 h2
    show u_P L xs n d m_X0_weaken 14 [(2, .int ((S s 11) - (S s 11) / (Int32.ofInt 12) * (Int32.ofInt 12))), (0, .ref 76), (1, .ref (s + 1))] [] S R _
    refine u_st rfl (fun _ => rfl) ?_
    show u_P L xs n d m_X0_weaken 15 [(2, .int ((S s 11) - (S s 11) / (Int32.ofInt 12) * (Int32.ofInt 12))), (0, .ref 76), (1, .ref (s + 1))] [.int ((S s 11) - (S s 11) / (Int32.ofInt 12) * (Int32.ofInt 12))] S R _
    refine u_if_eq rfl (fun h3 => ?_) (fun h3 => ?_)
    · have hD := hD.1 h3
      show u_P L xs n d m_X0_weaken 24 [(2, .int ((S s 11) - (S s 11) / (Int32.ofInt 12) * (Int32.ofInt 12))), (0, .ref 76), (1, .ref (s + 1))] [] S R _
      refine u_st rfl (fun _ => rfl) ?_
      refine u_st rfl (fun _ => rfl) ?_
      refine u_lc (b := [(0, .ref 76), (1, .ref (s + 1)), (2, .int ((S s 11) - (S s 11) / (Int32.ofInt 12) * (Int32.ofInt 12))), (3, .int (Int32.ofInt 0))]) (show ([3, 2, 0, 1] : List Nat).Nodup by decide) (show ([0, 1, 2, 3] : List Nat).Nodup by decide) (fun i => match i with | 0 => rfl | 1 => rfl | 2 => rfl | 3 => rfl | _ + 4 => rfl) ?_
      exact (hd_X0_weaken L xs hW hL hc s hs H26 K k26 n) d ((S s 11) - (S s 11) / (Int32.ofInt 12) * (Int32.ofInt 12)) (Int32.ofInt 0) S hD
    · have hD := hD.2 h3
      show u_P L xs n d m_X0_weaken 18 [(2, .int ((S s 11) - (S s 11) / (Int32.ofInt 12) * (Int32.ofInt 12))), (0, .ref 76), (1, .ref (s + 1))] [] S R _
      refine u_st rfl (fun _ => rfl) ?_
      refine u_st rfl (fun _ => rfl) ?_
      show u_P L xs n d m_X0_weaken 20 [(2, .int ((S s 11) - (S s 11) / (Int32.ofInt 12) * (Int32.ofInt 12))), (0, .ref 76), (1, .ref (s + 1))] [.int (Int32.ofInt 1), .int ((S s 11) - (S s 11) / (Int32.ofInt 12) * (Int32.ofInt 12))] S R _
      refine u_ic_eq rfl (fun h4 => ?_) (fun h4 => ?_)
      · have hD := hD.1 h4
        show u_P L xs n d m_X0_weaken 24 [(2, .int ((S s 11) - (S s 11) / (Int32.ofInt 12) * (Int32.ofInt 12))), (0, .ref 76), (1, .ref (s + 1))] [] S R _
        refine u_st rfl (fun _ => rfl) ?_
        refine u_st rfl (fun _ => rfl) ?_
        refine u_lc (b := [(0, .ref 76), (1, .ref (s + 1)), (2, .int ((S s 11) - (S s 11) / (Int32.ofInt 12) * (Int32.ofInt 12))), (3, .int (Int32.ofInt 0))]) (show ([3, 2, 0, 1] : List Nat).Nodup by decide) (show ([0, 1, 2, 3] : List Nat).Nodup by decide) (fun i => match i with | 0 => rfl | 1 => rfl | 2 => rfl | 3 => rfl | _ + 4 => rfl) ?_
        exact (hd_X0_weaken L xs hW hL hc s hs H26 K k26 n) d ((S s 11) - (S s 11) / (Int32.ofInt 12) * (Int32.ofInt 12)) (Int32.ofInt 0) S hD
      · have hD := hD.2 h4
        show u_P L xs n d m_X0_weaken 23 [(2, .int ((S s 11) - (S s 11) / (Int32.ofInt 12) * (Int32.ofInt 12))), (0, .ref 76), (1, .ref (s + 1))] [] S R _
        exact u_ret rfl rfl ⟨rfl, rfl, hD⟩
noncomputable def r_X0_weaken_26 (c : Nat) (s : Nat) : Nat → Nat → v_Sf → v_Sf
  | 0, k26, S => S
  | r + 1, k26, S => (if (f_X7_hasGust s (z_i k26) S) = 0 then r_X0_weaken_26 c s r (k26 + 1) S else r_X0_weaken_26 c s r (k26 + 1) (z_s (g_X3_ofGust c s (z_i k26) (Int32.ofInt 103) S) (s + 1) (z_i k26).toInt.toNat (z_max (Int32.ofInt 0) ((S (s + 1) (z_i k26).toInt.toNat) - (f_X3_ofGust c s (z_i k26) (Int32.ofInt 103) S)))))
noncomputable def F_X0_weaken (c : Nat) (s : Nat) (S : v_Sf) : v_Sf := (if ((S s 11) - (S s 11) / (Int32.ofInt 12) * (Int32.ofInt 12)) = (Int32.ofInt 11) then r_X0_weaken_26 c s (12 - 0) 0 S else (if ((S s 11) - (S s 11) / (Int32.ofInt 12) * (Int32.ofInt 12)) = 0 then r_X0_weaken_26 c s (12 - 0) 0 S else (if ((S s 11) - (S s 11) / (Int32.ofInt 12) * (Int32.ofInt 12)) = (Int32.ofInt 1) then r_X0_weaken_26 c s (12 - 0) 0 S else S)))
noncomputable def g_X0_weaken (c : Nat) (s : Nat) (S : v_Sf) : v_Sf := F_X0_weaken c s S
theorem c_X0_weaken (L : Nat) (xs : Nat → Int32) (n d : Nat) {R : v_Rf} (hW : z_W R) {c : Nat} (hL : R 50 2 = some (c + 1)) (hc : z_cd c) (s : Nat) (hs : z_st s) (S : v_Sf) : u_P L xs n d m_X0_weaken 0 (lv_args 0 [.ref 76, .ref (s + 1)]) [] S R (z_V R (fun S1 => g_X0_weaken c s S = S1)) := by
  refine w_X0_weaken L xs hW hL hc s hs (fun y3 T => ∃ (k26 : Nat), k26 ≤ 12 ∧ z_i k26 = y3 ∧ r_X0_weaken_26 c s (12 - k26) k26 T = F_X0_weaken c s S) (fun S1 => g_X0_weaken c s S = S1) ?_ n d S ?_
  · rintro _ S1 ⟨k26, hkk, rfl, e⟩
    unfold D_X0_weaken_26
    rcases Nat.lt_or_ge k26 (12) with hk | hk
    · rw [show 12 - k26 = (12 - (k26 + 1)) + 1 by omega, r_X0_weaken_26] at e
      refine ⟨fun q1 => ?_, fun q1 => ?_⟩
      · exact absurd hk (Nat.not_lt.mpr (z_leB2 (B := 12) q1 (by decide) (by omega)))
      · refine ⟨fun q2 => ?_, fun q2 => ?_⟩
        · rw [if_pos q2] at e
          exact ⟨(k26 + 1), by omega, (z_i1 k26).symm, e⟩
        · intro _ _
          intro _ _
          rw [if_neg q2] at e
          exact ⟨(k26 + 1), by omega, (z_i1 k26).symm, e⟩
    · rw [show 12 - k26 = 0 by omega, r_X0_weaken_26] at e
      refine ⟨fun q3 => ?_, fun q3 => ?_⟩
      · exact e.symm
      · exact absurd hk (Nat.not_le.mpr (z_ltB2 (B := 12) q3 (by decide) (by omega)))
  · unfold D_X0_weaken
    refine ⟨fun q4 => ?_, fun q4 => ?_⟩
    · have e : r_X0_weaken_26 c s (12 - 0) 0 S = F_X0_weaken c s S := by rw [F_X0_weaken, if_pos q4]
      exact ⟨0, by omega, rfl, e⟩
    · refine ⟨fun q5 => ?_, fun q5 => ?_⟩
      · have e : r_X0_weaken_26 c s (12 - 0) 0 S = F_X0_weaken c s S := by rw [F_X0_weaken, if_neg q4, if_pos q5]
        exact ⟨0, by omega, rfl, e⟩
      · refine ⟨fun q6 => ?_, fun q6 => ?_⟩
        · have e : r_X0_weaken_26 c s (12 - 0) 0 S = F_X0_weaken c s S := by rw [F_X0_weaken, if_neg q4, if_neg q5, if_pos q6]
          exact ⟨0, by omega, rfl, e⟩
        · have e : S = F_X0_weaken c s S := by rw [F_X0_weaken, if_neg q4, if_neg q5, if_neg q6]
          exact e.symm
noncomputable abbrev m_X0_strengthen : g_M := (g_cn 0, yX0_strengthen, cX0_strengthen, 5, none, g_look2 ttX0_strengthen)
set_option maxRecDepth 20000 in
theorem mt_X0_strengthen : g_mt 5 = some m_X0_strengthen := rfl
noncomputable def D_X0_strengthen_3 (c : Nat) (s : Nat) (H3 : Int32 → Int32 → Int32 → v_Sf → Prop) (K : v_Sf → Prop) (x2 : Int32) (x3 : Int32) (x4 : Int32) (S : v_Sf) : Prop := (((Int32.ofInt 12) ≤ x4 → K S) ∧ (¬ ((Int32.ofInt 12) ≤ x4) → ((x3 ≤ 0 → K S) ∧ (¬ (x3 ≤ 0) → (((f_X7_hasGust s x4 S) = 0 → H3 x2 x3 (x4 + (Int32.ofInt 1)) S) ∧ (¬ ((f_X7_hasGust s x4 S) = 0) → (0 ≤ x4.toInt → x4.toInt < 12 → (((¬ (S (s + 4) x4.toInt.toNat) = x2) → H3 x2 x3 (x4 + (Int32.ofInt 1)) S) ∧ (¬ (¬ (S (s + 4) x4.toInt.toNat) = x2) → (0 ≤ x4.toInt → x4.toInt < 12 → (0 ≤ x4.toInt → x4.toInt < 12 → H3 x2 x3 (x4 + (Int32.ofInt 1)) (z_s (g_X3_ofGust c s x4 (Int32.ofInt 102) S) (s + 1) x4.toInt.toNat (z_min (Int32.ofInt 99) ((S (s + 1) x4.toInt.toNat) + (f_X3_ofGust c s x4 (Int32.ofInt 102) S)))))))))))))))
noncomputable def D_X0_strengthen (c : Nat) (s : Nat) (w : Int32) (u : Int32) (H3 : Int32 → Int32 → Int32 → v_Sf → Prop) (K : v_Sf → Prop) (S : v_Sf) : Prop := H3 w u (Int32.ofInt 0) S
set_option maxRecDepth 4000 in
theorem hd_X0_strengthen (L : Nat) (xs : Nat → Int32) {R : v_Rf} (hW : z_W R) {c : Nat} (hL : R 50 2 = some (c + 1)) (hc : z_cd c) (s : Nat) (hs : z_st s) (w : Int32) (u : Int32) (H3 : Int32 → Int32 → Int32 → v_Sf → Prop) (K : v_Sf → Prop) (k3 : ∀ (x2 : Int32) (x3 : Int32) (x4 : Int32) (S : v_Sf), H3 x2 x3 x4 S → D_X0_strengthen_3 c s H3 K x2 x3 x4 S) : ∀ n, (∀ (d : Nat) (x2 : Int32) (x3 : Int32) (x4 : Int32) (S : v_Sf), H3 x2 x3 x4 S → u_P L xs n d m_X0_strengthen 3 [(0, .ref 76), (1, .ref (s + 1)), (2, .int x2), (3, .int x3), (4, .int x4)] [] S R (z_V R K)) := by
  intro n
  induction n using Nat.strongRecOn with
  | ind n ih =>
    intro d x2 x3 x4 S hD
    have hD := k3 x2 x3 x4 S hD
    unfold D_X0_strengthen_3 at hD
    show u_P L xs n d m_X0_strengthen 3 [(0, .ref 76), (1, .ref (s + 1)), (2, .int x2), (3, .int x3), (4, .int x4)] [] S R _
    refine u_st1 rfl (fun _ => rfl) (fun m hm => ?_)
    refine u_st rfl (fun _ => rfl) ?_
    show u_P L xs m d m_X0_strengthen 7 [(0, .ref 76), (1, .ref (s + 1)), (2, .int x2), (3, .int x3), (4, .int x4)] [.int (Int32.ofInt 12), .int x4] S R _
    refine u_ic_ge rfl (fun h1 => ?_) (fun h1 => ?_)
    · have hD := hD.1 h1
      show u_P L xs m d m_X0_strengthen 72 [(0, .ref 76), (1, .ref (s + 1)), (2, .int x2), (3, .int x3), (4, .int x4)] [] S R _
      exact u_ret rfl rfl ⟨rfl, rfl, hD⟩
    · have hD := hD.2 h1
      show u_P L xs m d m_X0_strengthen 10 [(0, .ref 76), (1, .ref (s + 1)), (2, .int x2), (3, .int x3), (4, .int x4)] [] S R _
      refine u_st rfl (fun _ => rfl) ?_
      show u_P L xs m d m_X0_strengthen 11 [(0, .ref 76), (1, .ref (s + 1)), (2, .int x2), (3, .int x3), (4, .int x4)] [.int x3] S R _
      refine u_if_le rfl (fun h2 => ?_) (fun h2 => ?_)
      · have hD := hD.1 h2
        show u_P L xs m d m_X0_strengthen 72 [(0, .ref 76), (1, .ref (s + 1)), (2, .int x2), (3, .int x3), (4, .int x4)] [] S R _
        exact u_ret rfl rfl ⟨rfl, rfl, hD⟩
      · have hD := hD.2 h2
        show u_P L xs m d m_X0_strengthen 14 [(0, .ref 76), (1, .ref (s + 1)), (2, .int x2), (3, .int x3), (4, .int x4)] [] S R _
        refine u_st rfl (fun _ => rfl) ?_
        refine u_st rfl (fun _ => rfl) ?_
        show u_P L xs m d m_X0_strengthen 17 [(0, .ref 76), (1, .ref (s + 1)), (2, .int x2), (3, .int x3), (4, .int x4)] [.int x4, .ref (s + 1)] S R _
        refine u_cv (rest := []) rfl (by decide) mt_X7_hasGust (z_st0 hs) rfl rfl rfl (Nat.le_of_ble_eq_true rfl) (Nat.le_of_ble_eq_true rfl) (Nat.le_of_ble_eq_true rfl) (fun d' => c_X7_hasGust L xs m d' s hs x4 S R) ?_
        rintro _ _ _ ⟨_, rfl, rfl, rfl, rfl⟩
        show u_P L xs m d m_X0_strengthen 20 [(0, .ref 76), (1, .ref (s + 1)), (2, .int x2), (3, .int x3), (4, .int x4)] [.int (f_X7_hasGust s x4 S)] S R _
        refine u_if_eq rfl (fun h3 => ?_) (fun h3 => ?_)
        · have hD := hD.1 h3
          show u_P L xs m d m_X0_strengthen 66 [(0, .ref 76), (1, .ref (s + 1)), (2, .int x2), (3, .int x3), (4, .int x4)] [] S R _
          refine u_st rfl (fun _ => rfl) ?_
          refine u_st rfl (fun _ => rfl) ?_
          refine u_lc (b := [(0, .ref 76), (1, .ref (s + 1)), (2, .int x2), (3, .int x3), (4, .int (x4 + (Int32.ofInt 1)))]) (show ([4, 0, 1, 2, 3] : List Nat).Nodup by decide) (show ([0, 1, 2, 3, 4] : List Nat).Nodup by decide) (fun i => match i with | 0 => rfl | 1 => rfl | 2 => rfl | 3 => rfl | 4 => rfl | _ + 5 => rfl) ?_
          exact (ih m hm) d x2 x3 (x4 + (Int32.ofInt 1)) S hD
        · have hD := hD.2 h3
          show u_P L xs m d m_X0_strengthen 23 [(0, .ref 76), (1, .ref (s + 1)), (2, .int x2), (3, .int x3), (4, .int x4)] [] S R _
          refine u_st rfl (fun _ => rfl) ?_
          show u_P L xs m d m_X0_strengthen 24 [(0, .ref 76), (1, .ref (s + 1)), (2, .int x2), (3, .int x3), (4, .int x4)] [.ref (s + 1)] S R _
          refine u_getr rfl (z_st0 hs) rfl ?_
          refine u_st rfl (fun _ => rfl) ?_
          show u_P L xs m d m_X0_strengthen 29 [(0, .ref 76), (1, .ref (s + 1)), (2, .int x2), (3, .int x3), (4, .int x4)] [.int x4, .ref (s + 5)] S R _
          refine u_ialdE (v := S (s + 4) x4.toInt.toNat) rfl (z_st4 hs) rfl (fun b41 b42 => ?_)
          have hD := hD b41 b42
          show u_P L xs m d m_X0_strengthen 30 [(0, .ref 76), (1, .ref (s + 1)), (2, .int x2), (3, .int x3), (4, .int x4)] [.int (S (s + 4) x4.toInt.toNat)] S R _
          refine u_st rfl (fun _ => rfl) ?_
          show u_P L xs m d m_X0_strengthen 31 [(0, .ref 76), (1, .ref (s + 1)), (2, .int x2), (3, .int x3), (4, .int x4)] [.int x2, .int (S (s + 4) x4.toInt.toNat)] S R _
          refine u_ic_ne rfl (fun h5 => ?_) (fun h5 => ?_)
          · have hD := hD.1 h5
            show u_P L xs m d m_X0_strengthen 66 [(0, .ref 76), (1, .ref (s + 1)), (2, .int x2), (3, .int x3), (4, .int x4)] [] S R _
            refine u_st rfl (fun _ => rfl) ?_
            refine u_st rfl (fun _ => rfl) ?_
            refine u_lc (b := [(0, .ref 76), (1, .ref (s + 1)), (2, .int x2), (3, .int x3), (4, .int (x4 + (Int32.ofInt 1)))]) (show ([4, 0, 1, 2, 3] : List Nat).Nodup by decide) (show ([0, 1, 2, 3, 4] : List Nat).Nodup by decide) (fun i => match i with | 0 => rfl | 1 => rfl | 2 => rfl | 3 => rfl | 4 => rfl | _ + 5 => rfl) ?_
            exact (ih m hm) d x2 x3 (x4 + (Int32.ofInt 1)) S hD
          · have hD := hD.2 h5
            show u_P L xs m d m_X0_strengthen 34 [(0, .ref 76), (1, .ref (s + 1)), (2, .int x2), (3, .int x3), (4, .int x4)] [] S R _
            refine u_st rfl (fun _ => rfl) ?_
            show u_P L xs m d m_X0_strengthen 35 [(0, .ref 76), (1, .ref (s + 1)), (2, .int x2), (3, .int x3), (4, .int x4)] [.ref (s + 1)] S R _
            refine u_getr rfl (z_st0 hs) rfl ?_
            refine u_st rfl (fun _ => rfl) ?_
            refine u_st rfl (fun _ => rfl) ?_
            refine u_st rfl (fun _ => rfl) ?_
            show u_P L xs m d m_X0_strengthen 43 [(0, .ref 76), (1, .ref (s + 1)), (2, .int x2), (3, .int x3), (4, .int x4)] [.ref (s + 1), .int (Int32.ofInt 99), .int x4, .ref (s + 2)] S R _
            refine u_getr rfl (z_st0 hs) rfl ?_
            refine u_st rfl (fun _ => rfl) ?_
            show u_P L xs m d m_X0_strengthen 48 [(0, .ref 76), (1, .ref (s + 1)), (2, .int x2), (3, .int x3), (4, .int x4)] [.int x4, .ref (s + 2), .int (Int32.ofInt 99), .int x4, .ref (s + 2)] S R _
            refine u_ialdE (v := S (s + 1) x4.toInt.toNat) rfl (z_st1 hs) rfl (fun b61 b62 => ?_)
            have hD := hD b61 b62
            show u_P L xs m d m_X0_strengthen 49 [(0, .ref 76), (1, .ref (s + 1)), (2, .int x2), (3, .int x3), (4, .int x4)] [.int (S (s + 1) x4.toInt.toNat), .int (Int32.ofInt 99), .int x4, .ref (s + 2)] S R _
            refine u_st rfl (fun _ => rfl) ?_
            show u_P L xs m d m_X0_strengthen 50 [(0, .ref 76), (1, .ref (s + 1)), (2, .int x2), (3, .int x3), (4, .int x4)] [.ref 76, .int (S (s + 1) x4.toInt.toNat), .int (Int32.ofInt 99), .int x4, .ref (s + 2)] S R _
            refine u_getr rfl rfl rfl ?_
            refine u_st rfl (fun _ => rfl) ?_
            refine u_st rfl (fun _ => rfl) ?_
            refine u_st rfl (fun _ => rfl) ?_
            show u_P L xs m d m_X0_strengthen 58 [(0, .ref 76), (1, .ref (s + 1)), (2, .int x2), (3, .int x3), (4, .int x4)] [.int (Int32.ofInt 102), .int x4, .ref (s + 1), .ref 51, .int (S (s + 1) x4.toInt.toNat), .int (Int32.ofInt 99), .int x4, .ref (s + 2)] S R _
            refine u_cv (rest := [.int (S (s + 1) x4.toInt.toNat), .int (Int32.ofInt 99), .int x4, .ref (s + 2)]) rfl (by decide) mt_X3_ofGust rfl rfl rfl rfl (Nat.le_of_ble_eq_true rfl) (Nat.le_of_ble_eq_true rfl) (Nat.le_of_ble_eq_true rfl) (fun d' => c_X3_ofGust L xs m d' hW hL hc s hs x4 (Int32.ofInt 102) S) ?_
            rintro _ _ _ ⟨_, rfl, rfl, rfl, rfl⟩
            refine u_st rfl (fun _ => rfl) ?_
            show u_P L xs m d m_X0_strengthen 62 [(0, .ref 76), (1, .ref (s + 1)), (2, .int x2), (3, .int x3), (4, .int x4)] [.int ((S (s + 1) x4.toInt.toNat) + (f_X3_ofGust c s x4 (Int32.ofInt 102) S)), .int (Int32.ofInt 99), .int x4, .ref (s + 2)] (g_X3_ofGust c s x4 (Int32.ofInt 102) S) R _
            refine u_min rfl ?_
            show u_P L xs m d m_X0_strengthen 65 [(0, .ref 76), (1, .ref (s + 1)), (2, .int x2), (3, .int x3), (4, .int x4)] [.int (z_min (Int32.ofInt 99) ((S (s + 1) x4.toInt.toNat) + (f_X3_ofGust c s x4 (Int32.ofInt 102) S))), .int x4, .ref (s + 2)] (g_X3_ofGust c s x4 (Int32.ofInt 102) S) R _
            refine u_iast rfl (z_st1 hs) (fun b71 b72 => ?_)
            have hD := hD b71 b72
            show u_P L xs m d m_X0_strengthen 66 [(0, .ref 76), (1, .ref (s + 1)), (2, .int x2), (3, .int x3), (4, .int x4)] [] (z_s (g_X3_ofGust c s x4 (Int32.ofInt 102) S) (s + 1) x4.toInt.toNat (z_min (Int32.ofInt 99) ((S (s + 1) x4.toInt.toNat) + (f_X3_ofGust c s x4 (Int32.ofInt 102) S)))) R _
            refine u_st rfl (fun _ => rfl) ?_
            refine u_st rfl (fun _ => rfl) ?_
            refine u_lc (b := [(0, .ref 76), (1, .ref (s + 1)), (2, .int x2), (3, .int x3), (4, .int (x4 + (Int32.ofInt 1)))]) (show ([4, 0, 1, 2, 3] : List Nat).Nodup by decide) (show ([0, 1, 2, 3, 4] : List Nat).Nodup by decide) (fun i => match i with | 0 => rfl | 1 => rfl | 2 => rfl | 3 => rfl | 4 => rfl | _ + 5 => rfl) ?_
            exact (ih m hm) d x2 x3 (x4 + (Int32.ofInt 1)) (z_s (g_X3_ofGust c s x4 (Int32.ofInt 102) S) (s + 1) x4.toInt.toNat (z_min (Int32.ofInt 99) ((S (s + 1) x4.toInt.toNat) + (f_X3_ofGust c s x4 (Int32.ofInt 102) S)))) hD
set_option maxRecDepth 4000 in
theorem w_X0_strengthen (L : Nat) (xs : Nat → Int32) {R : v_Rf} (hW : z_W R) {c : Nat} (hL : R 50 2 = some (c + 1)) (hc : z_cd c) (s : Nat) (hs : z_st s) (w : Int32) (u : Int32) (H3 : Int32 → Int32 → Int32 → v_Sf → Prop) (K : v_Sf → Prop) (k3 : ∀ (x2 : Int32) (x3 : Int32) (x4 : Int32) (S : v_Sf), H3 x2 x3 x4 S → D_X0_strengthen_3 c s H3 K x2 x3 x4 S) (n d : Nat) (S : v_Sf) (hD : D_X0_strengthen c s w u H3 K S) : u_P L xs n d m_X0_strengthen 0 (lv_args 0 [.ref 76, .ref (s + 1), .int w, .int u]) [] S R (z_V R K) := by
  unfold D_X0_strengthen at hD
  show u_P L xs n d m_X0_strengthen 0 [(0, .ref 76), (1, .ref (s + 1)), (2, .int w), (3, .int u)] [] S R _
  refine u_st rfl (fun _ => rfl) ?_
  refine u_st rfl (fun _ => rfl) ?_
  refine u_lc (b := [(0, .ref 76), (1, .ref (s + 1)), (2, .int w), (3, .int u), (4, .int (Int32.ofInt 0))]) (show ([4, 0, 1, 2, 3] : List Nat).Nodup by decide) (show ([0, 1, 2, 3, 4] : List Nat).Nodup by decide) (fun i => match i with | 0 => rfl | 1 => rfl | 2 => rfl | 3 => rfl | 4 => rfl | _ + 5 => rfl) ?_
  exact (hd_X0_strengthen L xs hW hL hc s hs w u H3 K k3 n) d w u (Int32.ofInt 0) S hD
noncomputable def r_X0_strengthen_3 (c : Nat) (s : Nat) (x2 : Int32) (x3 : Int32) : Nat → Nat → v_Sf → v_Sf
  | 0, k3, S => S
  | r + 1, k3, S => (if x3 ≤ 0 then S else (if (f_X7_hasGust s (z_i k3) S) = 0 then r_X0_strengthen_3 c s x2 x3 r (k3 + 1) S else (if ¬ (S (s + 4) (z_i k3).toInt.toNat) = x2 then r_X0_strengthen_3 c s x2 x3 r (k3 + 1) S else r_X0_strengthen_3 c s x2 x3 r (k3 + 1) (z_s (g_X3_ofGust c s (z_i k3) (Int32.ofInt 102) S) (s + 1) (z_i k3).toInt.toNat (z_min (Int32.ofInt 99) ((S (s + 1) (z_i k3).toInt.toNat) + (f_X3_ofGust c s (z_i k3) (Int32.ofInt 102) S)))))))
noncomputable def F_X0_strengthen (c : Nat) (s : Nat) (w : Int32) (u : Int32) (S : v_Sf) : v_Sf := r_X0_strengthen_3 c s w u (12 - 0) 0 S
noncomputable def g_X0_strengthen (c : Nat) (s : Nat) (w : Int32) (u : Int32) (S : v_Sf) : v_Sf := F_X0_strengthen c s w u S
theorem c_X0_strengthen (L : Nat) (xs : Nat → Int32) (n d : Nat) {R : v_Rf} (hW : z_W R) {c : Nat} (hL : R 50 2 = some (c + 1)) (hc : z_cd c) (s : Nat) (hs : z_st s) (w : Int32) (u : Int32) (S : v_Sf) : u_P L xs n d m_X0_strengthen 0 (lv_args 0 [.ref 76, .ref (s + 1), .int w, .int u]) [] S R (z_V R (fun S1 => g_X0_strengthen c s w u S = S1)) := by
  refine w_X0_strengthen L xs hW hL hc s hs w u (fun y2 y3 y4 T => ∃ (k3 : Nat), k3 ≤ 12 ∧ z_i k3 = y4 ∧ w = y2 ∧ u = y3 ∧ r_X0_strengthen_3 c s w u (12 - k3) k3 T = F_X0_strengthen c s w u S) (fun S1 => g_X0_strengthen c s w u S = S1) ?_ n d S ?_
  · rintro _ _ _ S1 ⟨k3, hkk, rfl, rfl, rfl, e⟩
    unfold D_X0_strengthen_3
    rcases Nat.lt_or_ge k3 (12) with hk | hk
    · rw [show 12 - k3 = (12 - (k3 + 1)) + 1 by omega, r_X0_strengthen_3] at e
      refine ⟨fun q1 => ?_, fun q1 => ?_⟩
      · exact absurd hk (Nat.not_lt.mpr (z_leB2 (B := 12) q1 (by decide) (by omega)))
      · refine ⟨fun q2 => ?_, fun q2 => ?_⟩
        · rw [if_pos q2] at e
          exact e.symm
        · refine ⟨fun q3 => ?_, fun q3 => ?_⟩
          · rw [if_neg q2, if_pos q3] at e
            exact ⟨(k3 + 1), by omega, (z_i1 k3).symm, rfl, rfl, e⟩
          · intro _ _
            refine ⟨fun q4 => ?_, fun q4 => ?_⟩
            · rw [if_neg q2, if_neg q3, if_pos q4] at e
              exact ⟨(k3 + 1), by omega, (z_i1 k3).symm, rfl, rfl, e⟩
            · intro _ _
              intro _ _
              rw [if_neg q2, if_neg q3, if_neg q4] at e
              exact ⟨(k3 + 1), by omega, (z_i1 k3).symm, rfl, rfl, e⟩
    · rw [show 12 - k3 = 0 by omega, r_X0_strengthen_3] at e
      refine ⟨fun q5 => ?_, fun q5 => ?_⟩
      · exact e.symm
      · exact absurd hk (Nat.not_le.mpr (z_ltB2 (B := 12) q5 (by decide) (by omega)))
  · unfold D_X0_strengthen
    have e : r_X0_strengthen_3 c s w u (12 - 0) 0 S = F_X0_strengthen c s w u S := by rw [F_X0_strengthen]
    exact ⟨0, by omega, rfl, rfl, rfl, e⟩
noncomputable abbrev m_X0_teach : g_M := (g_cn 0, yX0_teach, cX0_teach, 7, none, g_look2 ttX0_teach)
set_option maxRecDepth 20000 in
theorem mt_X0_teach : g_mt 6 = some m_X0_teach := rfl
noncomputable def D_X0_teach_14 (c : Nat) (s : Nat) (H14 : Int32 → Int32 → Int32 → v_Sf → Prop) (K : v_Sf → Prop) (x2 : Int32) (x3 : Int32) (x4 : Int32) (S : v_Sf) : Prop := (((Int32.ofInt 12) ≤ x4 → K S) ∧ (¬ ((Int32.ofInt 12) ≤ x4) → (((f_X7_hasGust s x4 S) = 0 → H14 x2 x3 (x4 + (Int32.ofInt 1)) S) ∧ (¬ ((f_X7_hasGust s x4 S) = 0) → (0 ≤ x4.toInt → x4.toInt < 12 → (((¬ (S (s + 4) x4.toInt.toNat) = x2) → H14 x2 x3 (x4 + (Int32.ofInt 1)) S) ∧ (¬ (¬ (S (s + 4) x4.toInt.toNat) = x2) → (0 ≤ x4.toInt → x4.toInt < 12 → (((¬ (f_X11_isIn (S (s + 6) x4.toInt.toNat) x3) = 0) → H14 x2 x3 (x4 + (Int32.ofInt 1)) S) ∧ (¬ (¬ (f_X11_isIn (S (s + 6) x4.toInt.toNat) x3) = 0) → (0 ≤ x3.toInt → x3.toInt < 10 → (0 ≤ x4.toInt → x4.toInt < 12 → (((¬ ((S 48 x3.toInt.toNat) &&& ((S (s + 6) x4.toInt.toNat) ^^^ (Int32.ofInt (-1)))) = 0) → H14 x2 x3 (x4 + (Int32.ofInt 1)) S) ∧ (¬ (¬ ((S 48 x3.toInt.toNat) &&& ((S (s + 6) x4.toInt.toNat) ^^^ (Int32.ofInt (-1)))) = 0) → (((f_X3_learns c s x4 x3 S) = 0 → H14 x2 x3 (x4 + (Int32.ofInt 1)) (g_X3_learns c s x4 x3 S)) ∧ (¬ ((f_X3_learns c s x4 x3 S) = 0) → (0 ≤ x4.toInt → x4.toInt < 12 → (0 ≤ x4.toInt → x4.toInt < 12 → H14 x2 x3 (x4 + (Int32.ofInt 1)) (z_s (z_s (g_X3_learns c s x4 x3 S) (s + 6) x4.toInt.toNat (((g_X3_learns c s x4 x3 S) (s + 6) x4.toInt.toNat) ||| ((Int32.ofInt 1) <<< (x3 &&& 31)))) 75 3 (((g_X3_learns c s x4 x3 S) 75 3) + (Int32.ofInt 1)))))))))))))))))))))
noncomputable def D_X0_teach (c : Nat) (s : Nat) (w : Int32) (l : Int32) (H14 : Int32 → Int32 → Int32 → v_Sf → Prop) (K : v_Sf → Prop) (S : v_Sf) : Prop := ((l < 0 → K S) ∧ (¬ (l < 0) → ((l < (Int32.ofInt 10) → H14 w l (Int32.ofInt 0) S) ∧ (¬ (l < (Int32.ofInt 10)) → K S))))
set_option maxRecDepth 4000 in
theorem hd_X0_teach (L : Nat) (xs : Nat → Int32) {R : v_Rf} (hW : z_W R) {c : Nat} (hL : R 50 2 = some (c + 1)) (hc : z_cd c) (s : Nat) (hs : z_st s) (w : Int32) (l : Int32) (H14 : Int32 → Int32 → Int32 → v_Sf → Prop) (K : v_Sf → Prop) (k14 : ∀ (x2 : Int32) (x3 : Int32) (x4 : Int32) (S : v_Sf), H14 x2 x3 x4 S → D_X0_teach_14 c s H14 K x2 x3 x4 S) : ∀ n, (∀ (d : Nat) (x2 : Int32) (x3 : Int32) (x4 : Int32) (S : v_Sf), H14 x2 x3 x4 S → u_P L xs n d m_X0_teach 14 [(0, .ref 76), (1, .ref (s + 1)), (2, .int x2), (3, .int x3), (4, .int x4)] [] S R (z_V R K)) ∧ (∀ (d : Nat) (j5 : Int32) (j6 : Int32) (x2 : Int32) (x3 : Int32) (x4 : Int32) (S : v_Sf), H14 x2 x3 x4 S → u_P L xs n d m_X0_teach 14 [(0, .ref 76), (1, .ref (s + 1)), (2, .int x2), (3, .int x3), (4, .int x4), (5, .int j5), (6, .int j6)] [] S R (z_V R K)) := by
  intro n
  induction n using Nat.strongRecOn with
  | ind n ih =>
    refine ⟨?_, ?_⟩
    · intro d x2 x3 x4 S hD
      have hD := k14 x2 x3 x4 S hD
      unfold D_X0_teach_14 at hD
      show u_P L xs n d m_X0_teach 14 [(0, .ref 76), (1, .ref (s + 1)), (2, .int x2), (3, .int x3), (4, .int x4)] [] S R _
      refine u_st1 rfl (fun _ => rfl) (fun m hm => ?_)
      refine u_st rfl (fun _ => rfl) ?_
      show u_P L xs m d m_X0_teach 18 [(0, .ref 76), (1, .ref (s + 1)), (2, .int x2), (3, .int x3), (4, .int x4)] [.int (Int32.ofInt 12), .int x4] S R _
      refine u_ic_ge rfl (fun h1 => ?_) (fun h1 => ?_)
      · have hD := hD.1 h1
        show u_P L xs m d m_X0_teach 144 [(0, .ref 76), (1, .ref (s + 1)), (2, .int x2), (3, .int x3), (4, .int x4)] [] S R _
        exact u_ret rfl rfl ⟨rfl, rfl, hD⟩
      · have hD := hD.2 h1
        show u_P L xs m d m_X0_teach 21 [(0, .ref 76), (1, .ref (s + 1)), (2, .int x2), (3, .int x3), (4, .int x4)] [] S R _
        refine u_st rfl (fun _ => rfl) ?_
        refine u_st rfl (fun _ => rfl) ?_
        show u_P L xs m d m_X0_teach 24 [(0, .ref 76), (1, .ref (s + 1)), (2, .int x2), (3, .int x3), (4, .int x4)] [.int x4, .ref (s + 1)] S R _
        refine u_cv (rest := []) rfl (by decide) mt_X7_hasGust (z_st0 hs) rfl rfl rfl (Nat.le_of_ble_eq_true rfl) (Nat.le_of_ble_eq_true rfl) (Nat.le_of_ble_eq_true rfl) (fun d' => c_X7_hasGust L xs m d' s hs x4 S R) ?_
        rintro _ _ _ ⟨_, rfl, rfl, rfl, rfl⟩
        show u_P L xs m d m_X0_teach 27 [(0, .ref 76), (1, .ref (s + 1)), (2, .int x2), (3, .int x3), (4, .int x4)] [.int (f_X7_hasGust s x4 S)] S R _
        refine u_if_eq rfl (fun h2 => ?_) (fun h2 => ?_)
        · have hD := hD.1 h2
          show u_P L xs m d m_X0_teach 59 [(0, .ref 76), (1, .ref (s + 1)), (2, .int x2), (3, .int x3), (4, .int x4)] [] S R _
          refine u_st rfl (fun _ => rfl) ?_
          refine u_st rfl (fun _ => rfl) ?_
          refine u_st rfl (fun _ => rfl) ?_
          show u_P L xs m d m_X0_teach 64 [(5, .int (Int32.ofInt 0)), (0, .ref 76), (1, .ref (s + 1)), (2, .int x2), (3, .int x3), (4, .int x4)] [.int (Int32.ofInt 0)] S R _
          refine u_st rfl (fun _ => rfl) ?_
          refine u_st rfl (fun _ => rfl) ?_
          refine u_st rfl (fun _ => rfl) ?_
          refine u_st rfl (fun _ => rfl) ?_
          show u_P L xs m d m_X0_teach 98 [(6, .int (Int32.ofInt 0)), (5, .int (Int32.ofInt 0)), (0, .ref 76), (1, .ref (s + 1)), (2, .int x2), (3, .int x3), (4, .int x4)] [.int (Int32.ofInt 0)] S R _
          refine u_st rfl (fun _ => rfl) ?_
          refine u_st rfl (fun _ => rfl) ?_
          refine u_st rfl (fun _ => rfl) ?_
          refine u_lc (b := [(0, .ref 76), (1, .ref (s + 1)), (2, .int x2), (3, .int x3), (4, .int (x4 + (Int32.ofInt 1))), (5, .int (Int32.ofInt 0)), (6, .int (Int32.ofInt 0))]) (show ([4, 6, 5, 0, 1, 2, 3] : List Nat).Nodup by decide) (show ([0, 1, 2, 3, 4, 5, 6] : List Nat).Nodup by decide) (fun i => match i with | 0 => rfl | 1 => rfl | 2 => rfl | 3 => rfl | 4 => rfl | 5 => rfl | 6 => rfl | _ + 7 => rfl) ?_
          exact (ih m hm).2 d (Int32.ofInt 0) (Int32.ofInt 0) x2 x3 (x4 + (Int32.ofInt 1)) S hD
        · have hD := hD.2 h2
          show u_P L xs m d m_X0_teach 30 [(0, .ref 76), (1, .ref (s + 1)), (2, .int x2), (3, .int x3), (4, .int x4)] [] S R _
          refine u_st rfl (fun _ => rfl) ?_
          show u_P L xs m d m_X0_teach 31 [(0, .ref 76), (1, .ref (s + 1)), (2, .int x2), (3, .int x3), (4, .int x4)] [.ref (s + 1)] S R _
          refine u_getr rfl (z_st0 hs) rfl ?_
          refine u_st rfl (fun _ => rfl) ?_
          show u_P L xs m d m_X0_teach 36 [(0, .ref 76), (1, .ref (s + 1)), (2, .int x2), (3, .int x3), (4, .int x4)] [.int x4, .ref (s + 5)] S R _
          refine u_ialdE (v := S (s + 4) x4.toInt.toNat) rfl (z_st4 hs) rfl (fun b31 b32 => ?_)
          have hD := hD b31 b32
          show u_P L xs m d m_X0_teach 37 [(0, .ref 76), (1, .ref (s + 1)), (2, .int x2), (3, .int x3), (4, .int x4)] [.int (S (s + 4) x4.toInt.toNat)] S R _
          refine u_st rfl (fun _ => rfl) ?_
          show u_P L xs m d m_X0_teach 38 [(0, .ref 76), (1, .ref (s + 1)), (2, .int x2), (3, .int x3), (4, .int x4)] [.int x2, .int (S (s + 4) x4.toInt.toNat)] S R _
          refine u_ic_ne rfl (fun h4 => ?_) (fun h4 => ?_)
          · have hD := hD.1 h4
            show u_P L xs m d m_X0_teach 59 [(0, .ref 76), (1, .ref (s + 1)), (2, .int x2), (3, .int x3), (4, .int x4)] [] S R _
            refine u_st rfl (fun _ => rfl) ?_
            refine u_st rfl (fun _ => rfl) ?_
            refine u_st rfl (fun _ => rfl) ?_
            show u_P L xs m d m_X0_teach 64 [(5, .int (Int32.ofInt 0)), (0, .ref 76), (1, .ref (s + 1)), (2, .int x2), (3, .int x3), (4, .int x4)] [.int (Int32.ofInt 0)] S R _
            refine u_st rfl (fun _ => rfl) ?_
            refine u_st rfl (fun _ => rfl) ?_
            refine u_st rfl (fun _ => rfl) ?_
            refine u_st rfl (fun _ => rfl) ?_
            show u_P L xs m d m_X0_teach 98 [(6, .int (Int32.ofInt 0)), (5, .int (Int32.ofInt 0)), (0, .ref 76), (1, .ref (s + 1)), (2, .int x2), (3, .int x3), (4, .int x4)] [.int (Int32.ofInt 0)] S R _
            refine u_st rfl (fun _ => rfl) ?_
            refine u_st rfl (fun _ => rfl) ?_
            refine u_st rfl (fun _ => rfl) ?_
            refine u_lc (b := [(0, .ref 76), (1, .ref (s + 1)), (2, .int x2), (3, .int x3), (4, .int (x4 + (Int32.ofInt 1))), (5, .int (Int32.ofInt 0)), (6, .int (Int32.ofInt 0))]) (show ([4, 6, 5, 0, 1, 2, 3] : List Nat).Nodup by decide) (show ([0, 1, 2, 3, 4, 5, 6] : List Nat).Nodup by decide) (fun i => match i with | 0 => rfl | 1 => rfl | 2 => rfl | 3 => rfl | 4 => rfl | 5 => rfl | 6 => rfl | _ + 7 => rfl) ?_
            exact (ih m hm).2 d (Int32.ofInt 0) (Int32.ofInt 0) x2 x3 (x4 + (Int32.ofInt 1)) S hD
          · have hD := hD.2 h4
            show u_P L xs m d m_X0_teach 41 [(0, .ref 76), (1, .ref (s + 1)), (2, .int x2), (3, .int x3), (4, .int x4)] [] S R _
            refine u_st rfl (fun _ => rfl) ?_
            show u_P L xs m d m_X0_teach 42 [(0, .ref 76), (1, .ref (s + 1)), (2, .int x2), (3, .int x3), (4, .int x4)] [.ref (s + 1)] S R _
            refine u_getr rfl (z_st0 hs) rfl ?_
            refine u_st rfl (fun _ => rfl) ?_
            show u_P L xs m d m_X0_teach 47 [(0, .ref 76), (1, .ref (s + 1)), (2, .int x2), (3, .int x3), (4, .int x4)] [.int x4, .ref (s + 7)] S R _
            refine u_ialdE (v := S (s + 6) x4.toInt.toNat) rfl (z_st6 hs) rfl (fun b51 b52 => ?_)
            have hD := hD b51 b52
            show u_P L xs m d m_X0_teach 48 [(0, .ref 76), (1, .ref (s + 1)), (2, .int x2), (3, .int x3), (4, .int x4)] [.int (S (s + 6) x4.toInt.toNat)] S R _
            refine u_st rfl (fun _ => rfl) ?_
            show u_P L xs m d m_X0_teach 49 [(0, .ref 76), (1, .ref (s + 1)), (2, .int x2), (3, .int x3), (4, .int x4)] [.int x3, .int (S (s + 6) x4.toInt.toNat)] S R _
            refine u_cs (ac := [.int (S (s + 6) x4.toInt.toNat), .int x3]) (rest := []) rfl (by decide) mt_X11_isIn (fun _ => rfl) (Nat.le_of_ble_eq_true rfl) (Nat.le_of_ble_eq_true rfl) (fun d' => c_X11_isIn L xs m d' (S (s + 6) x4.toInt.toNat) x3 S R) ?_
            rintro _ _ _ ⟨_, rfl, rfl, rfl, rfl⟩
            show u_P L xs m d m_X0_teach 52 [(0, .ref 76), (1, .ref (s + 1)), (2, .int x2), (3, .int x3), (4, .int x4)] [.int (f_X11_isIn (S (s + 6) x4.toInt.toNat) x3)] S R _
            refine u_if_ne rfl (fun h6 => ?_) (fun h6 => ?_)
            · have hD := hD.1 h6
              show u_P L xs m d m_X0_teach 59 [(0, .ref 76), (1, .ref (s + 1)), (2, .int x2), (3, .int x3), (4, .int x4)] [] S R _
              refine u_st rfl (fun _ => rfl) ?_
              refine u_st rfl (fun _ => rfl) ?_
              refine u_st rfl (fun _ => rfl) ?_
              show u_P L xs m d m_X0_teach 64 [(5, .int (Int32.ofInt 0)), (0, .ref 76), (1, .ref (s + 1)), (2, .int x2), (3, .int x3), (4, .int x4)] [.int (Int32.ofInt 0)] S R _
              refine u_st rfl (fun _ => rfl) ?_
              refine u_st rfl (fun _ => rfl) ?_
              refine u_st rfl (fun _ => rfl) ?_
              refine u_st rfl (fun _ => rfl) ?_
              show u_P L xs m d m_X0_teach 98 [(6, .int (Int32.ofInt 0)), (5, .int (Int32.ofInt 0)), (0, .ref 76), (1, .ref (s + 1)), (2, .int x2), (3, .int x3), (4, .int x4)] [.int (Int32.ofInt 0)] S R _
              refine u_st rfl (fun _ => rfl) ?_
              refine u_st rfl (fun _ => rfl) ?_
              refine u_st rfl (fun _ => rfl) ?_
              refine u_lc (b := [(0, .ref 76), (1, .ref (s + 1)), (2, .int x2), (3, .int x3), (4, .int (x4 + (Int32.ofInt 1))), (5, .int (Int32.ofInt 0)), (6, .int (Int32.ofInt 0))]) (show ([4, 6, 5, 0, 1, 2, 3] : List Nat).Nodup by decide) (show ([0, 1, 2, 3, 4, 5, 6] : List Nat).Nodup by decide) (fun i => match i with | 0 => rfl | 1 => rfl | 2 => rfl | 3 => rfl | 4 => rfl | 5 => rfl | 6 => rfl | _ + 7 => rfl) ?_
              exact (ih m hm).2 d (Int32.ofInt 0) (Int32.ofInt 0) x2 x3 (x4 + (Int32.ofInt 1)) S hD
            · have hD := hD.2 h6
              show u_P L xs m d m_X0_teach 55 [(0, .ref 76), (1, .ref (s + 1)), (2, .int x2), (3, .int x3), (4, .int x4)] [] S R _
              refine u_st rfl (fun _ => rfl) ?_
              refine u_st rfl (fun _ => rfl) ?_
              refine u_st rfl (fun _ => rfl) ?_
              refine u_st rfl (fun _ => rfl) ?_
              show u_P L xs m d m_X0_teach 64 [(5, .int (Int32.ofInt 1)), (0, .ref 76), (1, .ref (s + 1)), (2, .int x2), (3, .int x3), (4, .int x4)] [.int (Int32.ofInt 1)] S R _
              refine u_st rfl (fun _ => rfl) ?_
              refine u_st rfl (fun _ => rfl) ?_
              show u_P L xs m d m_X0_teach 68 [(5, .int (Int32.ofInt 1)), (0, .ref 76), (1, .ref (s + 1)), (2, .int x2), (3, .int x3), (4, .int x4)] [.ref 76] S R _
              refine u_getr rfl rfl rfl ?_
              show u_P L xs m d m_X0_teach 71 [(5, .int (Int32.ofInt 1)), (0, .ref 76), (1, .ref (s + 1)), (2, .int x2), (3, .int x3), (4, .int x4)] [.ref 48] S R _
              refine u_getr rfl rfl rfl ?_
              refine u_st rfl (fun _ => rfl) ?_
              show u_P L xs m d m_X0_teach 75 [(5, .int (Int32.ofInt 1)), (0, .ref 76), (1, .ref (s + 1)), (2, .int x2), (3, .int x3), (4, .int x4)] [.int x3, .ref 49] S R _
              refine u_ialdE (v := S 48 x3.toInt.toNat) rfl rfl rfl (fun b71 b72 => ?_)
              have hD := hD b71 b72
              show u_P L xs m d m_X0_teach 76 [(5, .int (Int32.ofInt 1)), (0, .ref 76), (1, .ref (s + 1)), (2, .int x2), (3, .int x3), (4, .int x4)] [.int (S 48 x3.toInt.toNat)] S R _
              refine u_st rfl (fun _ => rfl) ?_
              show u_P L xs m d m_X0_teach 77 [(5, .int (Int32.ofInt 1)), (0, .ref 76), (1, .ref (s + 1)), (2, .int x2), (3, .int x3), (4, .int x4)] [.ref (s + 1), .int (S 48 x3.toInt.toNat)] S R _
              refine u_getr rfl (z_st0 hs) rfl ?_
              refine u_st rfl (fun _ => rfl) ?_
              show u_P L xs m d m_X0_teach 82 [(5, .int (Int32.ofInt 1)), (0, .ref 76), (1, .ref (s + 1)), (2, .int x2), (3, .int x3), (4, .int x4)] [.int x4, .ref (s + 7), .int (S 48 x3.toInt.toNat)] S R _
              refine u_ialdE (v := S (s + 6) x4.toInt.toNat) rfl (z_st6 hs) rfl (fun b81 b82 => ?_)
              have hD := hD b81 b82
              show u_P L xs m d m_X0_teach 83 [(5, .int (Int32.ofInt 1)), (0, .ref 76), (1, .ref (s + 1)), (2, .int x2), (3, .int x3), (4, .int x4)] [.int (S (s + 6) x4.toInt.toNat), .int (S 48 x3.toInt.toNat)] S R _
              refine u_st rfl (fun _ => rfl) ?_
              refine u_st rfl (fun _ => rfl) ?_
              refine u_st rfl (fun _ => rfl) ?_
              show u_P L xs m d m_X0_teach 86 [(5, .int (Int32.ofInt 1)), (0, .ref 76), (1, .ref (s + 1)), (2, .int x2), (3, .int x3), (4, .int x4)] [.int ((S 48 x3.toInt.toNat) &&& ((S (s + 6) x4.toInt.toNat) ^^^ (Int32.ofInt (-1))))] S R _
              refine u_if_ne rfl (fun h9 => ?_) (fun h9 => ?_)
              · have hD := hD.1 h9
                show u_P L xs m d m_X0_teach 93 [(5, .int (Int32.ofInt 1)), (0, .ref 76), (1, .ref (s + 1)), (2, .int x2), (3, .int x3), (4, .int x4)] [] S R _
                refine u_st rfl (fun _ => rfl) ?_
                refine u_st rfl (fun _ => rfl) ?_
                refine u_st rfl (fun _ => rfl) ?_
                show u_P L xs m d m_X0_teach 98 [(6, .int (Int32.ofInt 0)), (5, .int (Int32.ofInt 1)), (0, .ref 76), (1, .ref (s + 1)), (2, .int x2), (3, .int x3), (4, .int x4)] [.int (Int32.ofInt 0)] S R _
                refine u_st rfl (fun _ => rfl) ?_
                refine u_st rfl (fun _ => rfl) ?_
                refine u_st rfl (fun _ => rfl) ?_
                refine u_lc (b := [(0, .ref 76), (1, .ref (s + 1)), (2, .int x2), (3, .int x3), (4, .int (x4 + (Int32.ofInt 1))), (5, .int (Int32.ofInt 1)), (6, .int (Int32.ofInt 0))]) (show ([4, 6, 5, 0, 1, 2, 3] : List Nat).Nodup by decide) (show ([0, 1, 2, 3, 4, 5, 6] : List Nat).Nodup by decide) (fun i => match i with | 0 => rfl | 1 => rfl | 2 => rfl | 3 => rfl | 4 => rfl | 5 => rfl | 6 => rfl | _ + 7 => rfl) ?_
                exact (ih m hm).2 d (Int32.ofInt 1) (Int32.ofInt 0) x2 x3 (x4 + (Int32.ofInt 1)) S hD
              · have hD := hD.2 h9
                show u_P L xs m d m_X0_teach 89 [(5, .int (Int32.ofInt 1)), (0, .ref 76), (1, .ref (s + 1)), (2, .int x2), (3, .int x3), (4, .int x4)] [] S R _
                refine u_st rfl (fun _ => rfl) ?_
                refine u_st rfl (fun _ => rfl) ?_
                refine u_st rfl (fun _ => rfl) ?_
                refine u_st rfl (fun _ => rfl) ?_
                show u_P L xs m d m_X0_teach 98 [(6, .int (Int32.ofInt 1)), (5, .int (Int32.ofInt 1)), (0, .ref 76), (1, .ref (s + 1)), (2, .int x2), (3, .int x3), (4, .int x4)] [.int (Int32.ofInt 1)] S R _
                refine u_st rfl (fun _ => rfl) ?_
                refine u_st rfl (fun _ => rfl) ?_
                show u_P L xs m d m_X0_teach 102 [(6, .int (Int32.ofInt 1)), (5, .int (Int32.ofInt 1)), (0, .ref 76), (1, .ref (s + 1)), (2, .int x2), (3, .int x3), (4, .int x4)] [.ref 76] S R _
                refine u_getr rfl rfl rfl ?_
                refine u_st rfl (fun _ => rfl) ?_
                refine u_st rfl (fun _ => rfl) ?_
                refine u_st rfl (fun _ => rfl) ?_
                show u_P L xs m d m_X0_teach 109 [(6, .int (Int32.ofInt 1)), (5, .int (Int32.ofInt 1)), (0, .ref 76), (1, .ref (s + 1)), (2, .int x2), (3, .int x3), (4, .int x4)] [.int x3, .int x4, .ref (s + 1), .ref 51] S R _
                refine u_cv (rest := []) rfl (by decide) mt_X3_learns rfl rfl rfl rfl (Nat.le_of_ble_eq_true rfl) (Nat.le_of_ble_eq_true rfl) (Nat.le_of_ble_eq_true rfl) (fun d' => c_X3_learns L xs m d' hW hL hc s hs x4 x3 S) ?_
                rintro _ _ _ ⟨_, rfl, rfl, rfl, rfl⟩
                show u_P L xs m d m_X0_teach 112 [(6, .int (Int32.ofInt 1)), (5, .int (Int32.ofInt 1)), (0, .ref 76), (1, .ref (s + 1)), (2, .int x2), (3, .int x3), (4, .int x4)] [.int (f_X3_learns c s x4 x3 S)] (g_X3_learns c s x4 x3 S) R _
                refine u_if_eq rfl (fun h10 => ?_) (fun h10 => ?_)
                · have hD := hD.1 h10
                  show u_P L xs m d m_X0_teach 138 [(6, .int (Int32.ofInt 1)), (5, .int (Int32.ofInt 1)), (0, .ref 76), (1, .ref (s + 1)), (2, .int x2), (3, .int x3), (4, .int x4)] [] (g_X3_learns c s x4 x3 S) R _
                  refine u_st rfl (fun _ => rfl) ?_
                  refine u_st rfl (fun _ => rfl) ?_
                  refine u_lc (b := [(0, .ref 76), (1, .ref (s + 1)), (2, .int x2), (3, .int x3), (4, .int (x4 + (Int32.ofInt 1))), (5, .int (Int32.ofInt 1)), (6, .int (Int32.ofInt 1))]) (show ([4, 6, 5, 0, 1, 2, 3] : List Nat).Nodup by decide) (show ([0, 1, 2, 3, 4, 5, 6] : List Nat).Nodup by decide) (fun i => match i with | 0 => rfl | 1 => rfl | 2 => rfl | 3 => rfl | 4 => rfl | 5 => rfl | 6 => rfl | _ + 7 => rfl) ?_
                  exact (ih m hm).2 d (Int32.ofInt 1) (Int32.ofInt 1) x2 x3 (x4 + (Int32.ofInt 1)) (g_X3_learns c s x4 x3 S) hD
                · have hD := hD.2 h10
                  show u_P L xs m d m_X0_teach 115 [(6, .int (Int32.ofInt 1)), (5, .int (Int32.ofInt 1)), (0, .ref 76), (1, .ref (s + 1)), (2, .int x2), (3, .int x3), (4, .int x4)] [] (g_X3_learns c s x4 x3 S) R _
                  refine u_st rfl (fun _ => rfl) ?_
                  show u_P L xs m d m_X0_teach 116 [(6, .int (Int32.ofInt 1)), (5, .int (Int32.ofInt 1)), (0, .ref 76), (1, .ref (s + 1)), (2, .int x2), (3, .int x3), (4, .int x4)] [.ref (s + 1)] (g_X3_learns c s x4 x3 S) R _
                  refine u_getr rfl (z_st0 hs) rfl ?_
                  refine u_st rfl (fun _ => rfl) ?_
                  refine u_st rfl (fun _ => rfl) ?_
                  show u_P L xs m d m_X0_teach 122 [(6, .int (Int32.ofInt 1)), (5, .int (Int32.ofInt 1)), (0, .ref 76), (1, .ref (s + 1)), (2, .int x2), (3, .int x3), (4, .int x4)] [.int x4, .ref (s + 7), .int x4, .ref (s + 7)] (g_X3_learns c s x4 x3 S) R _
                  refine u_ialdE (v := (g_X3_learns c s x4 x3 S) (s + 6) x4.toInt.toNat) rfl (z_st6 hs) rfl (fun b111 b112 => ?_)
                  have hD := hD b111 b112
                  show u_P L xs m d m_X0_teach 123 [(6, .int (Int32.ofInt 1)), (5, .int (Int32.ofInt 1)), (0, .ref 76), (1, .ref (s + 1)), (2, .int x2), (3, .int x3), (4, .int x4)] [.int ((g_X3_learns c s x4 x3 S) (s + 6) x4.toInt.toNat), .int x4, .ref (s + 7)] (g_X3_learns c s x4 x3 S) R _
                  refine u_st rfl (fun _ => rfl) ?_
                  refine u_st rfl (fun _ => rfl) ?_
                  refine u_st rfl (fun _ => rfl) ?_
                  refine u_st rfl (fun _ => rfl) ?_
                  show u_P L xs m d m_X0_teach 127 [(6, .int (Int32.ofInt 1)), (5, .int (Int32.ofInt 1)), (0, .ref 76), (1, .ref (s + 1)), (2, .int x2), (3, .int x3), (4, .int x4)] [.int (((g_X3_learns c s x4 x3 S) (s + 6) x4.toInt.toNat) ||| ((Int32.ofInt 1) <<< (x3 &&& 31))), .int x4, .ref (s + 7)] (g_X3_learns c s x4 x3 S) R _
                  refine u_iast rfl (z_st6 hs) (fun b121 b122 => ?_)
                  have hD := hD b121 b122
                  show u_P L xs m d m_X0_teach 128 [(6, .int (Int32.ofInt 1)), (5, .int (Int32.ofInt 1)), (0, .ref 76), (1, .ref (s + 1)), (2, .int x2), (3, .int x3), (4, .int x4)] [] (z_s (g_X3_learns c s x4 x3 S) (s + 6) x4.toInt.toNat (((g_X3_learns c s x4 x3 S) (s + 6) x4.toInt.toNat) ||| ((Int32.ofInt 1) <<< (x3 &&& 31)))) R _
                  refine u_st rfl (fun _ => rfl) ?_
                  refine u_st rfl (fun _ => rfl) ?_
                  show u_P L xs m d m_X0_teach 130 [(6, .int (Int32.ofInt 1)), (5, .int (Int32.ofInt 1)), (0, .ref 76), (1, .ref (s + 1)), (2, .int x2), (3, .int x3), (4, .int x4)] [.ref 76, .ref 76] (z_s (g_X3_learns c s x4 x3 S) (s + 6) x4.toInt.toNat (((g_X3_learns c s x4 x3 S) (s + 6) x4.toInt.toNat) ||| ((Int32.ofInt 1) <<< (x3 &&& 31)))) R _
                  refine u_getE (v := (g_X3_learns c s x4 x3 S) 75 3) rfl rfl rfl (z_sn (fun h => absurd h.1 (by have := z_stl hs; omega))) ?_
                  refine u_st rfl (fun _ => rfl) ?_
                  refine u_st rfl (fun _ => rfl) ?_
                  show u_P L xs m d m_X0_teach 135 [(6, .int (Int32.ofInt 1)), (5, .int (Int32.ofInt 1)), (0, .ref 76), (1, .ref (s + 1)), (2, .int x2), (3, .int x3), (4, .int x4)] [.int (((g_X3_learns c s x4 x3 S) 75 3) + (Int32.ofInt 1)), .ref 76] (z_s (g_X3_learns c s x4 x3 S) (s + 6) x4.toInt.toNat (((g_X3_learns c s x4 x3 S) (s + 6) x4.toInt.toNat) ||| ((Int32.ofInt 1) <<< (x3 &&& 31)))) R _
                  refine u_put rfl rfl rfl ?_
                  refine u_st rfl (fun _ => rfl) ?_
                  refine u_st rfl (fun _ => rfl) ?_
                  refine u_lc (b := [(0, .ref 76), (1, .ref (s + 1)), (2, .int x2), (3, .int x3), (4, .int (x4 + (Int32.ofInt 1))), (5, .int (Int32.ofInt 1)), (6, .int (Int32.ofInt 1))]) (show ([4, 6, 5, 0, 1, 2, 3] : List Nat).Nodup by decide) (show ([0, 1, 2, 3, 4, 5, 6] : List Nat).Nodup by decide) (fun i => match i with | 0 => rfl | 1 => rfl | 2 => rfl | 3 => rfl | 4 => rfl | 5 => rfl | 6 => rfl | _ + 7 => rfl) ?_
                  exact (ih m hm).2 d (Int32.ofInt 1) (Int32.ofInt 1) x2 x3 (x4 + (Int32.ofInt 1)) (z_s (z_s (g_X3_learns c s x4 x3 S) (s + 6) x4.toInt.toNat (((g_X3_learns c s x4 x3 S) (s + 6) x4.toInt.toNat) ||| ((Int32.ofInt 1) <<< (x3 &&& 31)))) 75 3 (((g_X3_learns c s x4 x3 S) 75 3) + (Int32.ofInt 1))) hD
    · intro d j5 j6 x2 x3 x4 S hD
      have hD := k14 x2 x3 x4 S hD
      unfold D_X0_teach_14 at hD
      show u_P L xs n d m_X0_teach 14 [(0, .ref 76), (1, .ref (s + 1)), (2, .int x2), (3, .int x3), (4, .int x4), (5, .int j5), (6, .int j6)] [] S R _
      refine u_st1 rfl (fun _ => rfl) (fun m hm => ?_)
      refine u_st rfl (fun _ => rfl) ?_
      show u_P L xs m d m_X0_teach 18 [(0, .ref 76), (1, .ref (s + 1)), (2, .int x2), (3, .int x3), (4, .int x4), (5, .int j5), (6, .int j6)] [.int (Int32.ofInt 12), .int x4] S R _
      refine u_ic_ge rfl (fun h1 => ?_) (fun h1 => ?_)
      · have hD := hD.1 h1
        show u_P L xs m d m_X0_teach 144 [(0, .ref 76), (1, .ref (s + 1)), (2, .int x2), (3, .int x3), (4, .int x4), (5, .int j5), (6, .int j6)] [] S R _
        exact u_ret rfl rfl ⟨rfl, rfl, hD⟩
      · have hD := hD.2 h1
        show u_P L xs m d m_X0_teach 21 [(0, .ref 76), (1, .ref (s + 1)), (2, .int x2), (3, .int x3), (4, .int x4), (5, .int j5), (6, .int j6)] [] S R _
        refine u_st rfl (fun _ => rfl) ?_
        refine u_st rfl (fun _ => rfl) ?_
        show u_P L xs m d m_X0_teach 24 [(0, .ref 76), (1, .ref (s + 1)), (2, .int x2), (3, .int x3), (4, .int x4), (5, .int j5), (6, .int j6)] [.int x4, .ref (s + 1)] S R _
        refine u_cv (rest := []) rfl (by decide) mt_X7_hasGust (z_st0 hs) rfl rfl rfl (Nat.le_of_ble_eq_true rfl) (Nat.le_of_ble_eq_true rfl) (Nat.le_of_ble_eq_true rfl) (fun d' => c_X7_hasGust L xs m d' s hs x4 S R) ?_
        rintro _ _ _ ⟨_, rfl, rfl, rfl, rfl⟩
        show u_P L xs m d m_X0_teach 27 [(0, .ref 76), (1, .ref (s + 1)), (2, .int x2), (3, .int x3), (4, .int x4), (5, .int j5), (6, .int j6)] [.int (f_X7_hasGust s x4 S)] S R _
        refine u_if_eq rfl (fun h2 => ?_) (fun h2 => ?_)
        · have hD := hD.1 h2
          show u_P L xs m d m_X0_teach 59 [(0, .ref 76), (1, .ref (s + 1)), (2, .int x2), (3, .int x3), (4, .int x4), (5, .int j5), (6, .int j6)] [] S R _
          refine u_st rfl (fun _ => rfl) ?_
          refine u_st rfl (fun _ => rfl) ?_
          refine u_st rfl (fun _ => rfl) ?_
          show u_P L xs m d m_X0_teach 64 [(5, .int (Int32.ofInt 0)), (0, .ref 76), (1, .ref (s + 1)), (2, .int x2), (3, .int x3), (4, .int x4), (6, .int j6)] [.int (Int32.ofInt 0)] S R _
          refine u_st rfl (fun _ => rfl) ?_
          refine u_st rfl (fun _ => rfl) ?_
          refine u_st rfl (fun _ => rfl) ?_
          refine u_st rfl (fun _ => rfl) ?_
          show u_P L xs m d m_X0_teach 98 [(6, .int (Int32.ofInt 0)), (5, .int (Int32.ofInt 0)), (0, .ref 76), (1, .ref (s + 1)), (2, .int x2), (3, .int x3), (4, .int x4)] [.int (Int32.ofInt 0)] S R _
          refine u_st rfl (fun _ => rfl) ?_
          refine u_st rfl (fun _ => rfl) ?_
          refine u_st rfl (fun _ => rfl) ?_
          refine u_lc (b := [(0, .ref 76), (1, .ref (s + 1)), (2, .int x2), (3, .int x3), (4, .int (x4 + (Int32.ofInt 1))), (5, .int (Int32.ofInt 0)), (6, .int (Int32.ofInt 0))]) (show ([4, 6, 5, 0, 1, 2, 3] : List Nat).Nodup by decide) (show ([0, 1, 2, 3, 4, 5, 6] : List Nat).Nodup by decide) (fun i => match i with | 0 => rfl | 1 => rfl | 2 => rfl | 3 => rfl | 4 => rfl | 5 => rfl | 6 => rfl | _ + 7 => rfl) ?_
          exact (ih m hm).2 d (Int32.ofInt 0) (Int32.ofInt 0) x2 x3 (x4 + (Int32.ofInt 1)) S hD
        · have hD := hD.2 h2
          show u_P L xs m d m_X0_teach 30 [(0, .ref 76), (1, .ref (s + 1)), (2, .int x2), (3, .int x3), (4, .int x4), (5, .int j5), (6, .int j6)] [] S R _
          refine u_st rfl (fun _ => rfl) ?_
          show u_P L xs m d m_X0_teach 31 [(0, .ref 76), (1, .ref (s + 1)), (2, .int x2), (3, .int x3), (4, .int x4), (5, .int j5), (6, .int j6)] [.ref (s + 1)] S R _
          refine u_getr rfl (z_st0 hs) rfl ?_
          refine u_st rfl (fun _ => rfl) ?_
          show u_P L xs m d m_X0_teach 36 [(0, .ref 76), (1, .ref (s + 1)), (2, .int x2), (3, .int x3), (4, .int x4), (5, .int j5), (6, .int j6)] [.int x4, .ref (s + 5)] S R _
          refine u_ialdE (v := S (s + 4) x4.toInt.toNat) rfl (z_st4 hs) rfl (fun b31 b32 => ?_)
          have hD := hD b31 b32
          show u_P L xs m d m_X0_teach 37 [(0, .ref 76), (1, .ref (s + 1)), (2, .int x2), (3, .int x3), (4, .int x4), (5, .int j5), (6, .int j6)] [.int (S (s + 4) x4.toInt.toNat)] S R _
          refine u_st rfl (fun _ => rfl) ?_
          show u_P L xs m d m_X0_teach 38 [(0, .ref 76), (1, .ref (s + 1)), (2, .int x2), (3, .int x3), (4, .int x4), (5, .int j5), (6, .int j6)] [.int x2, .int (S (s + 4) x4.toInt.toNat)] S R _
          refine u_ic_ne rfl (fun h4 => ?_) (fun h4 => ?_)
          · have hD := hD.1 h4
            show u_P L xs m d m_X0_teach 59 [(0, .ref 76), (1, .ref (s + 1)), (2, .int x2), (3, .int x3), (4, .int x4), (5, .int j5), (6, .int j6)] [] S R _
            refine u_st rfl (fun _ => rfl) ?_
            refine u_st rfl (fun _ => rfl) ?_
            refine u_st rfl (fun _ => rfl) ?_
            show u_P L xs m d m_X0_teach 64 [(5, .int (Int32.ofInt 0)), (0, .ref 76), (1, .ref (s + 1)), (2, .int x2), (3, .int x3), (4, .int x4), (6, .int j6)] [.int (Int32.ofInt 0)] S R _
            refine u_st rfl (fun _ => rfl) ?_
            refine u_st rfl (fun _ => rfl) ?_
            refine u_st rfl (fun _ => rfl) ?_
            refine u_st rfl (fun _ => rfl) ?_
            show u_P L xs m d m_X0_teach 98 [(6, .int (Int32.ofInt 0)), (5, .int (Int32.ofInt 0)), (0, .ref 76), (1, .ref (s + 1)), (2, .int x2), (3, .int x3), (4, .int x4)] [.int (Int32.ofInt 0)] S R _
            refine u_st rfl (fun _ => rfl) ?_
            refine u_st rfl (fun _ => rfl) ?_
            refine u_st rfl (fun _ => rfl) ?_
            refine u_lc (b := [(0, .ref 76), (1, .ref (s + 1)), (2, .int x2), (3, .int x3), (4, .int (x4 + (Int32.ofInt 1))), (5, .int (Int32.ofInt 0)), (6, .int (Int32.ofInt 0))]) (show ([4, 6, 5, 0, 1, 2, 3] : List Nat).Nodup by decide) (show ([0, 1, 2, 3, 4, 5, 6] : List Nat).Nodup by decide) (fun i => match i with | 0 => rfl | 1 => rfl | 2 => rfl | 3 => rfl | 4 => rfl | 5 => rfl | 6 => rfl | _ + 7 => rfl) ?_
            exact (ih m hm).2 d (Int32.ofInt 0) (Int32.ofInt 0) x2 x3 (x4 + (Int32.ofInt 1)) S hD
          · have hD := hD.2 h4
            show u_P L xs m d m_X0_teach 41 [(0, .ref 76), (1, .ref (s + 1)), (2, .int x2), (3, .int x3), (4, .int x4), (5, .int j5), (6, .int j6)] [] S R _
            refine u_st rfl (fun _ => rfl) ?_
            show u_P L xs m d m_X0_teach 42 [(0, .ref 76), (1, .ref (s + 1)), (2, .int x2), (3, .int x3), (4, .int x4), (5, .int j5), (6, .int j6)] [.ref (s + 1)] S R _
            refine u_getr rfl (z_st0 hs) rfl ?_
            refine u_st rfl (fun _ => rfl) ?_
            show u_P L xs m d m_X0_teach 47 [(0, .ref 76), (1, .ref (s + 1)), (2, .int x2), (3, .int x3), (4, .int x4), (5, .int j5), (6, .int j6)] [.int x4, .ref (s + 7)] S R _
            refine u_ialdE (v := S (s + 6) x4.toInt.toNat) rfl (z_st6 hs) rfl (fun b51 b52 => ?_)
            have hD := hD b51 b52
            show u_P L xs m d m_X0_teach 48 [(0, .ref 76), (1, .ref (s + 1)), (2, .int x2), (3, .int x3), (4, .int x4), (5, .int j5), (6, .int j6)] [.int (S (s + 6) x4.toInt.toNat)] S R _
            refine u_st rfl (fun _ => rfl) ?_
            show u_P L xs m d m_X0_teach 49 [(0, .ref 76), (1, .ref (s + 1)), (2, .int x2), (3, .int x3), (4, .int x4), (5, .int j5), (6, .int j6)] [.int x3, .int (S (s + 6) x4.toInt.toNat)] S R _
            refine u_cs (ac := [.int (S (s + 6) x4.toInt.toNat), .int x3]) (rest := []) rfl (by decide) mt_X11_isIn (fun _ => rfl) (Nat.le_of_ble_eq_true rfl) (Nat.le_of_ble_eq_true rfl) (fun d' => c_X11_isIn L xs m d' (S (s + 6) x4.toInt.toNat) x3 S R) ?_
            rintro _ _ _ ⟨_, rfl, rfl, rfl, rfl⟩
            show u_P L xs m d m_X0_teach 52 [(0, .ref 76), (1, .ref (s + 1)), (2, .int x2), (3, .int x3), (4, .int x4), (5, .int j5), (6, .int j6)] [.int (f_X11_isIn (S (s + 6) x4.toInt.toNat) x3)] S R _
            refine u_if_ne rfl (fun h6 => ?_) (fun h6 => ?_)
            · have hD := hD.1 h6
              show u_P L xs m d m_X0_teach 59 [(0, .ref 76), (1, .ref (s + 1)), (2, .int x2), (3, .int x3), (4, .int x4), (5, .int j5), (6, .int j6)] [] S R _
              refine u_st rfl (fun _ => rfl) ?_
              refine u_st rfl (fun _ => rfl) ?_
              refine u_st rfl (fun _ => rfl) ?_
              show u_P L xs m d m_X0_teach 64 [(5, .int (Int32.ofInt 0)), (0, .ref 76), (1, .ref (s + 1)), (2, .int x2), (3, .int x3), (4, .int x4), (6, .int j6)] [.int (Int32.ofInt 0)] S R _
              refine u_st rfl (fun _ => rfl) ?_
              refine u_st rfl (fun _ => rfl) ?_
              refine u_st rfl (fun _ => rfl) ?_
              refine u_st rfl (fun _ => rfl) ?_
              show u_P L xs m d m_X0_teach 98 [(6, .int (Int32.ofInt 0)), (5, .int (Int32.ofInt 0)), (0, .ref 76), (1, .ref (s + 1)), (2, .int x2), (3, .int x3), (4, .int x4)] [.int (Int32.ofInt 0)] S R _
              refine u_st rfl (fun _ => rfl) ?_
              refine u_st rfl (fun _ => rfl) ?_
              refine u_st rfl (fun _ => rfl) ?_
              refine u_lc (b := [(0, .ref 76), (1, .ref (s + 1)), (2, .int x2), (3, .int x3), (4, .int (x4 + (Int32.ofInt 1))), (5, .int (Int32.ofInt 0)), (6, .int (Int32.ofInt 0))]) (show ([4, 6, 5, 0, 1, 2, 3] : List Nat).Nodup by decide) (show ([0, 1, 2, 3, 4, 5, 6] : List Nat).Nodup by decide) (fun i => match i with | 0 => rfl | 1 => rfl | 2 => rfl | 3 => rfl | 4 => rfl | 5 => rfl | 6 => rfl | _ + 7 => rfl) ?_
              exact (ih m hm).2 d (Int32.ofInt 0) (Int32.ofInt 0) x2 x3 (x4 + (Int32.ofInt 1)) S hD
            · have hD := hD.2 h6
              show u_P L xs m d m_X0_teach 55 [(0, .ref 76), (1, .ref (s + 1)), (2, .int x2), (3, .int x3), (4, .int x4), (5, .int j5), (6, .int j6)] [] S R _
              refine u_st rfl (fun _ => rfl) ?_
              refine u_st rfl (fun _ => rfl) ?_
              refine u_st rfl (fun _ => rfl) ?_
              refine u_st rfl (fun _ => rfl) ?_
              show u_P L xs m d m_X0_teach 64 [(5, .int (Int32.ofInt 1)), (0, .ref 76), (1, .ref (s + 1)), (2, .int x2), (3, .int x3), (4, .int x4), (6, .int j6)] [.int (Int32.ofInt 1)] S R _
              refine u_st rfl (fun _ => rfl) ?_
              refine u_st rfl (fun _ => rfl) ?_
              show u_P L xs m d m_X0_teach 68 [(5, .int (Int32.ofInt 1)), (0, .ref 76), (1, .ref (s + 1)), (2, .int x2), (3, .int x3), (4, .int x4), (6, .int j6)] [.ref 76] S R _
              refine u_getr rfl rfl rfl ?_
              show u_P L xs m d m_X0_teach 71 [(5, .int (Int32.ofInt 1)), (0, .ref 76), (1, .ref (s + 1)), (2, .int x2), (3, .int x3), (4, .int x4), (6, .int j6)] [.ref 48] S R _
              refine u_getr rfl rfl rfl ?_
              refine u_st rfl (fun _ => rfl) ?_
              show u_P L xs m d m_X0_teach 75 [(5, .int (Int32.ofInt 1)), (0, .ref 76), (1, .ref (s + 1)), (2, .int x2), (3, .int x3), (4, .int x4), (6, .int j6)] [.int x3, .ref 49] S R _
              refine u_ialdE (v := S 48 x3.toInt.toNat) rfl rfl rfl (fun b71 b72 => ?_)
              have hD := hD b71 b72
              show u_P L xs m d m_X0_teach 76 [(5, .int (Int32.ofInt 1)), (0, .ref 76), (1, .ref (s + 1)), (2, .int x2), (3, .int x3), (4, .int x4), (6, .int j6)] [.int (S 48 x3.toInt.toNat)] S R _
              refine u_st rfl (fun _ => rfl) ?_
              show u_P L xs m d m_X0_teach 77 [(5, .int (Int32.ofInt 1)), (0, .ref 76), (1, .ref (s + 1)), (2, .int x2), (3, .int x3), (4, .int x4), (6, .int j6)] [.ref (s + 1), .int (S 48 x3.toInt.toNat)] S R _
              refine u_getr rfl (z_st0 hs) rfl ?_
              refine u_st rfl (fun _ => rfl) ?_
              show u_P L xs m d m_X0_teach 82 [(5, .int (Int32.ofInt 1)), (0, .ref 76), (1, .ref (s + 1)), (2, .int x2), (3, .int x3), (4, .int x4), (6, .int j6)] [.int x4, .ref (s + 7), .int (S 48 x3.toInt.toNat)] S R _
              refine u_ialdE (v := S (s + 6) x4.toInt.toNat) rfl (z_st6 hs) rfl (fun b81 b82 => ?_)
              have hD := hD b81 b82
              show u_P L xs m d m_X0_teach 83 [(5, .int (Int32.ofInt 1)), (0, .ref 76), (1, .ref (s + 1)), (2, .int x2), (3, .int x3), (4, .int x4), (6, .int j6)] [.int (S (s + 6) x4.toInt.toNat), .int (S 48 x3.toInt.toNat)] S R _
              refine u_st rfl (fun _ => rfl) ?_
              refine u_st rfl (fun _ => rfl) ?_
              refine u_st rfl (fun _ => rfl) ?_
              show u_P L xs m d m_X0_teach 86 [(5, .int (Int32.ofInt 1)), (0, .ref 76), (1, .ref (s + 1)), (2, .int x2), (3, .int x3), (4, .int x4), (6, .int j6)] [.int ((S 48 x3.toInt.toNat) &&& ((S (s + 6) x4.toInt.toNat) ^^^ (Int32.ofInt (-1))))] S R _
              refine u_if_ne rfl (fun h9 => ?_) (fun h9 => ?_)
              · have hD := hD.1 h9
                show u_P L xs m d m_X0_teach 93 [(5, .int (Int32.ofInt 1)), (0, .ref 76), (1, .ref (s + 1)), (2, .int x2), (3, .int x3), (4, .int x4), (6, .int j6)] [] S R _
                refine u_st rfl (fun _ => rfl) ?_
                refine u_st rfl (fun _ => rfl) ?_
                refine u_st rfl (fun _ => rfl) ?_
                show u_P L xs m d m_X0_teach 98 [(6, .int (Int32.ofInt 0)), (5, .int (Int32.ofInt 1)), (0, .ref 76), (1, .ref (s + 1)), (2, .int x2), (3, .int x3), (4, .int x4)] [.int (Int32.ofInt 0)] S R _
                refine u_st rfl (fun _ => rfl) ?_
                refine u_st rfl (fun _ => rfl) ?_
                refine u_st rfl (fun _ => rfl) ?_
                refine u_lc (b := [(0, .ref 76), (1, .ref (s + 1)), (2, .int x2), (3, .int x3), (4, .int (x4 + (Int32.ofInt 1))), (5, .int (Int32.ofInt 1)), (6, .int (Int32.ofInt 0))]) (show ([4, 6, 5, 0, 1, 2, 3] : List Nat).Nodup by decide) (show ([0, 1, 2, 3, 4, 5, 6] : List Nat).Nodup by decide) (fun i => match i with | 0 => rfl | 1 => rfl | 2 => rfl | 3 => rfl | 4 => rfl | 5 => rfl | 6 => rfl | _ + 7 => rfl) ?_
                exact (ih m hm).2 d (Int32.ofInt 1) (Int32.ofInt 0) x2 x3 (x4 + (Int32.ofInt 1)) S hD
              · have hD := hD.2 h9
                show u_P L xs m d m_X0_teach 89 [(5, .int (Int32.ofInt 1)), (0, .ref 76), (1, .ref (s + 1)), (2, .int x2), (3, .int x3), (4, .int x4), (6, .int j6)] [] S R _
                refine u_st rfl (fun _ => rfl) ?_
                refine u_st rfl (fun _ => rfl) ?_
                refine u_st rfl (fun _ => rfl) ?_
                refine u_st rfl (fun _ => rfl) ?_
                show u_P L xs m d m_X0_teach 98 [(6, .int (Int32.ofInt 1)), (5, .int (Int32.ofInt 1)), (0, .ref 76), (1, .ref (s + 1)), (2, .int x2), (3, .int x3), (4, .int x4)] [.int (Int32.ofInt 1)] S R _
                refine u_st rfl (fun _ => rfl) ?_
                refine u_st rfl (fun _ => rfl) ?_
                show u_P L xs m d m_X0_teach 102 [(6, .int (Int32.ofInt 1)), (5, .int (Int32.ofInt 1)), (0, .ref 76), (1, .ref (s + 1)), (2, .int x2), (3, .int x3), (4, .int x4)] [.ref 76] S R _
                refine u_getr rfl rfl rfl ?_
                refine u_st rfl (fun _ => rfl) ?_
                refine u_st rfl (fun _ => rfl) ?_
                refine u_st rfl (fun _ => rfl) ?_
                show u_P L xs m d m_X0_teach 109 [(6, .int (Int32.ofInt 1)), (5, .int (Int32.ofInt 1)), (0, .ref 76), (1, .ref (s + 1)), (2, .int x2), (3, .int x3), (4, .int x4)] [.int x3, .int x4, .ref (s + 1), .ref 51] S R _
                refine u_cv (rest := []) rfl (by decide) mt_X3_learns rfl rfl rfl rfl (Nat.le_of_ble_eq_true rfl) (Nat.le_of_ble_eq_true rfl) (Nat.le_of_ble_eq_true rfl) (fun d' => c_X3_learns L xs m d' hW hL hc s hs x4 x3 S) ?_
                rintro _ _ _ ⟨_, rfl, rfl, rfl, rfl⟩
                show u_P L xs m d m_X0_teach 112 [(6, .int (Int32.ofInt 1)), (5, .int (Int32.ofInt 1)), (0, .ref 76), (1, .ref (s + 1)), (2, .int x2), (3, .int x3), (4, .int x4)] [.int (f_X3_learns c s x4 x3 S)] (g_X3_learns c s x4 x3 S) R _
                refine u_if_eq rfl (fun h10 => ?_) (fun h10 => ?_)
                · have hD := hD.1 h10
                  show u_P L xs m d m_X0_teach 138 [(6, .int (Int32.ofInt 1)), (5, .int (Int32.ofInt 1)), (0, .ref 76), (1, .ref (s + 1)), (2, .int x2), (3, .int x3), (4, .int x4)] [] (g_X3_learns c s x4 x3 S) R _
                  refine u_st rfl (fun _ => rfl) ?_
                  refine u_st rfl (fun _ => rfl) ?_
                  refine u_lc (b := [(0, .ref 76), (1, .ref (s + 1)), (2, .int x2), (3, .int x3), (4, .int (x4 + (Int32.ofInt 1))), (5, .int (Int32.ofInt 1)), (6, .int (Int32.ofInt 1))]) (show ([4, 6, 5, 0, 1, 2, 3] : List Nat).Nodup by decide) (show ([0, 1, 2, 3, 4, 5, 6] : List Nat).Nodup by decide) (fun i => match i with | 0 => rfl | 1 => rfl | 2 => rfl | 3 => rfl | 4 => rfl | 5 => rfl | 6 => rfl | _ + 7 => rfl) ?_
                  exact (ih m hm).2 d (Int32.ofInt 1) (Int32.ofInt 1) x2 x3 (x4 + (Int32.ofInt 1)) (g_X3_learns c s x4 x3 S) hD
                · have hD := hD.2 h10
                  show u_P L xs m d m_X0_teach 115 [(6, .int (Int32.ofInt 1)), (5, .int (Int32.ofInt 1)), (0, .ref 76), (1, .ref (s + 1)), (2, .int x2), (3, .int x3), (4, .int x4)] [] (g_X3_learns c s x4 x3 S) R _
                  refine u_st rfl (fun _ => rfl) ?_
                  show u_P L xs m d m_X0_teach 116 [(6, .int (Int32.ofInt 1)), (5, .int (Int32.ofInt 1)), (0, .ref 76), (1, .ref (s + 1)), (2, .int x2), (3, .int x3), (4, .int x4)] [.ref (s + 1)] (g_X3_learns c s x4 x3 S) R _
                  refine u_getr rfl (z_st0 hs) rfl ?_
                  refine u_st rfl (fun _ => rfl) ?_
                  refine u_st rfl (fun _ => rfl) ?_
                  show u_P L xs m d m_X0_teach 122 [(6, .int (Int32.ofInt 1)), (5, .int (Int32.ofInt 1)), (0, .ref 76), (1, .ref (s + 1)), (2, .int x2), (3, .int x3), (4, .int x4)] [.int x4, .ref (s + 7), .int x4, .ref (s + 7)] (g_X3_learns c s x4 x3 S) R _
                  refine u_ialdE (v := (g_X3_learns c s x4 x3 S) (s + 6) x4.toInt.toNat) rfl (z_st6 hs) rfl (fun b111 b112 => ?_)
                  have hD := hD b111 b112
                  show u_P L xs m d m_X0_teach 123 [(6, .int (Int32.ofInt 1)), (5, .int (Int32.ofInt 1)), (0, .ref 76), (1, .ref (s + 1)), (2, .int x2), (3, .int x3), (4, .int x4)] [.int ((g_X3_learns c s x4 x3 S) (s + 6) x4.toInt.toNat), .int x4, .ref (s + 7)] (g_X3_learns c s x4 x3 S) R _
                  refine u_st rfl (fun _ => rfl) ?_
                  refine u_st rfl (fun _ => rfl) ?_
                  refine u_st rfl (fun _ => rfl) ?_
                  refine u_st rfl (fun _ => rfl) ?_
                  show u_P L xs m d m_X0_teach 127 [(6, .int (Int32.ofInt 1)), (5, .int (Int32.ofInt 1)), (0, .ref 76), (1, .ref (s + 1)), (2, .int x2), (3, .int x3), (4, .int x4)] [.int (((g_X3_learns c s x4 x3 S) (s + 6) x4.toInt.toNat) ||| ((Int32.ofInt 1) <<< (x3 &&& 31))), .int x4, .ref (s + 7)] (g_X3_learns c s x4 x3 S) R _
                  refine u_iast rfl (z_st6 hs) (fun b121 b122 => ?_)
                  have hD := hD b121 b122
                  show u_P L xs m d m_X0_teach 128 [(6, .int (Int32.ofInt 1)), (5, .int (Int32.ofInt 1)), (0, .ref 76), (1, .ref (s + 1)), (2, .int x2), (3, .int x3), (4, .int x4)] [] (z_s (g_X3_learns c s x4 x3 S) (s + 6) x4.toInt.toNat (((g_X3_learns c s x4 x3 S) (s + 6) x4.toInt.toNat) ||| ((Int32.ofInt 1) <<< (x3 &&& 31)))) R _
                  refine u_st rfl (fun _ => rfl) ?_
                  refine u_st rfl (fun _ => rfl) ?_
                  show u_P L xs m d m_X0_teach 130 [(6, .int (Int32.ofInt 1)), (5, .int (Int32.ofInt 1)), (0, .ref 76), (1, .ref (s + 1)), (2, .int x2), (3, .int x3), (4, .int x4)] [.ref 76, .ref 76] (z_s (g_X3_learns c s x4 x3 S) (s + 6) x4.toInt.toNat (((g_X3_learns c s x4 x3 S) (s + 6) x4.toInt.toNat) ||| ((Int32.ofInt 1) <<< (x3 &&& 31)))) R _
                  refine u_getE (v := (g_X3_learns c s x4 x3 S) 75 3) rfl rfl rfl (z_sn (fun h => absurd h.1 (by have := z_stl hs; omega))) ?_
                  refine u_st rfl (fun _ => rfl) ?_
                  refine u_st rfl (fun _ => rfl) ?_
                  show u_P L xs m d m_X0_teach 135 [(6, .int (Int32.ofInt 1)), (5, .int (Int32.ofInt 1)), (0, .ref 76), (1, .ref (s + 1)), (2, .int x2), (3, .int x3), (4, .int x4)] [.int (((g_X3_learns c s x4 x3 S) 75 3) + (Int32.ofInt 1)), .ref 76] (z_s (g_X3_learns c s x4 x3 S) (s + 6) x4.toInt.toNat (((g_X3_learns c s x4 x3 S) (s + 6) x4.toInt.toNat) ||| ((Int32.ofInt 1) <<< (x3 &&& 31)))) R _
                  refine u_put rfl rfl rfl ?_
                  refine u_st rfl (fun _ => rfl) ?_
                  refine u_st rfl (fun _ => rfl) ?_
                  refine u_lc (b := [(0, .ref 76), (1, .ref (s + 1)), (2, .int x2), (3, .int x3), (4, .int (x4 + (Int32.ofInt 1))), (5, .int (Int32.ofInt 1)), (6, .int (Int32.ofInt 1))]) (show ([4, 6, 5, 0, 1, 2, 3] : List Nat).Nodup by decide) (show ([0, 1, 2, 3, 4, 5, 6] : List Nat).Nodup by decide) (fun i => match i with | 0 => rfl | 1 => rfl | 2 => rfl | 3 => rfl | 4 => rfl | 5 => rfl | 6 => rfl | _ + 7 => rfl) ?_
                  exact (ih m hm).2 d (Int32.ofInt 1) (Int32.ofInt 1) x2 x3 (x4 + (Int32.ofInt 1)) (z_s (z_s (g_X3_learns c s x4 x3 S) (s + 6) x4.toInt.toNat (((g_X3_learns c s x4 x3 S) (s + 6) x4.toInt.toNat) ||| ((Int32.ofInt 1) <<< (x3 &&& 31)))) 75 3 (((g_X3_learns c s x4 x3 S) 75 3) + (Int32.ofInt 1))) hD
set_option maxRecDepth 4000 in
theorem w_X0_teach (L : Nat) (xs : Nat → Int32) {R : v_Rf} (hW : z_W R) {c : Nat} (hL : R 50 2 = some (c + 1)) (hc : z_cd c) (s : Nat) (hs : z_st s) (w : Int32) (l : Int32) (H14 : Int32 → Int32 → Int32 → v_Sf → Prop) (K : v_Sf → Prop) (k14 : ∀ (x2 : Int32) (x3 : Int32) (x4 : Int32) (S : v_Sf), H14 x2 x3 x4 S → D_X0_teach_14 c s H14 K x2 x3 x4 S) (n d : Nat) (S : v_Sf) (hD : D_X0_teach c s w l H14 K S) : u_P L xs n d m_X0_teach 0 (lv_args 0 [.ref 76, .ref (s + 1), .int w, .int l]) [] S R (z_V R K) := by
  unfold D_X0_teach at hD
  show u_P L xs n d m_X0_teach 0 [(0, .ref 76), (1, .ref (s + 1)), (2, .int w), (3, .int l)] [] S R _
  refine u_st rfl (fun _ => rfl) ?_
  show u_P L xs n d m_X0_teach 1 [(0, .ref 76), (1, .ref (s + 1)), (2, .int w), (3, .int l)] [.int l] S R _
  refine u_if_lt rfl (fun h1 => ?_) (fun h1 => ?_)
  · have hD := hD.1 h1
    show u_P L xs n d m_X0_teach 10 [(0, .ref 76), (1, .ref (s + 1)), (2, .int w), (3, .int l)] [] S R _
    exact u_ret rfl rfl ⟨rfl, rfl, hD⟩
  · have hD := hD.2 h1
    show u_P L xs n d m_X0_teach 4 [(0, .ref 76), (1, .ref (s + 1)), (2, .int w), (3, .int l)] [] S R _
    refine u_st rfl (fun _ => rfl) ?_
    refine u_st rfl (fun _ => rfl) ?_
    show u_P L xs n d m_X0_teach 7 [(0, .ref 76), (1, .ref (s + 1)), (2, .int w), (3, .int l)] [.int (Int32.ofInt 10), .int l] S R _
    refine u_ic_lt rfl (fun h2 => ?_) (fun h2 => ?_)
    · have hD := hD.1 h2
      show u_P L xs n d m_X0_teach 11 [(0, .ref 76), (1, .ref (s + 1)), (2, .int w), (3, .int l)] [] S R _
      refine u_st rfl (fun _ => rfl) ?_
      refine u_st rfl (fun _ => rfl) ?_
      refine u_lc (b := [(0, .ref 76), (1, .ref (s + 1)), (2, .int w), (3, .int l), (4, .int (Int32.ofInt 0))]) (show ([4, 0, 1, 2, 3] : List Nat).Nodup by decide) (show ([0, 1, 2, 3, 4] : List Nat).Nodup by decide) (fun i => match i with | 0 => rfl | 1 => rfl | 2 => rfl | 3 => rfl | 4 => rfl | _ + 5 => rfl) ?_
      exact (hd_X0_teach L xs hW hL hc s hs w l H14 K k14 n).1 d w l (Int32.ofInt 0) S hD
    · have hD := hD.2 h2
      show u_P L xs n d m_X0_teach 10 [(0, .ref 76), (1, .ref (s + 1)), (2, .int w), (3, .int l)] [] S R _
      exact u_ret rfl rfl ⟨rfl, rfl, hD⟩
noncomputable def r_X0_teach_14 (c : Nat) (s : Nat) (x2 : Int32) (x3 : Int32) : Nat → Nat → v_Sf → v_Sf
  | 0, k14, S => S
  | r + 1, k14, S => (if (f_X7_hasGust s (z_i k14) S) = 0 then r_X0_teach_14 c s x2 x3 r (k14 + 1) S else (if ¬ (S (s + 4) (z_i k14).toInt.toNat) = x2 then r_X0_teach_14 c s x2 x3 r (k14 + 1) S else (if ¬ (f_X11_isIn (S (s + 6) (z_i k14).toInt.toNat) x3) = 0 then r_X0_teach_14 c s x2 x3 r (k14 + 1) S else (if ¬ ((S 48 x3.toInt.toNat) &&& ((S (s + 6) (z_i k14).toInt.toNat) ^^^ (Int32.ofInt (-1)))) = 0 then r_X0_teach_14 c s x2 x3 r (k14 + 1) S else (if (f_X3_learns c s (z_i k14) x3 S) = 0 then r_X0_teach_14 c s x2 x3 r (k14 + 1) (g_X3_learns c s (z_i k14) x3 S) else r_X0_teach_14 c s x2 x3 r (k14 + 1) (z_s (z_s (g_X3_learns c s (z_i k14) x3 S) (s + 6) (z_i k14).toInt.toNat (((g_X3_learns c s (z_i k14) x3 S) (s + 6) (z_i k14).toInt.toNat) ||| ((Int32.ofInt 1) <<< (x3 &&& 31)))) 75 3 (((g_X3_learns c s (z_i k14) x3 S) 75 3) + (Int32.ofInt 1))))))))
noncomputable def F_X0_teach (c : Nat) (s : Nat) (w : Int32) (l : Int32) (S : v_Sf) : v_Sf := (if l < 0 then S else (if l < (Int32.ofInt 10) then r_X0_teach_14 c s w l (12 - 0) 0 S else S))
noncomputable def g_X0_teach (c : Nat) (s : Nat) (w : Int32) (l : Int32) (S : v_Sf) : v_Sf := F_X0_teach c s w l S
theorem c_X0_teach (L : Nat) (xs : Nat → Int32) (n d : Nat) {R : v_Rf} (hW : z_W R) {c : Nat} (hL : R 50 2 = some (c + 1)) (hc : z_cd c) (s : Nat) (hs : z_st s) (w : Int32) (l : Int32) (S : v_Sf) : u_P L xs n d m_X0_teach 0 (lv_args 0 [.ref 76, .ref (s + 1), .int w, .int l]) [] S R (z_V R (fun S1 => g_X0_teach c s w l S = S1)) := by
  refine w_X0_teach L xs hW hL hc s hs w l (fun y2 y3 y4 T => ∃ (k14 : Nat), k14 ≤ 12 ∧ z_i k14 = y4 ∧ w = y2 ∧ l = y3 ∧ r_X0_teach_14 c s w l (12 - k14) k14 T = F_X0_teach c s w l S) (fun S1 => g_X0_teach c s w l S = S1) ?_ n d S ?_
  · rintro _ _ _ S1 ⟨k14, hkk, rfl, rfl, rfl, e⟩
    unfold D_X0_teach_14
    rcases Nat.lt_or_ge k14 (12) with hk | hk
    · rw [show 12 - k14 = (12 - (k14 + 1)) + 1 by omega, r_X0_teach_14] at e
      refine ⟨fun q1 => ?_, fun q1 => ?_⟩
      · exact absurd hk (Nat.not_lt.mpr (z_leB2 (B := 12) q1 (by decide) (by omega)))
      · refine ⟨fun q2 => ?_, fun q2 => ?_⟩
        · rw [if_pos q2] at e
          exact ⟨(k14 + 1), by omega, (z_i1 k14).symm, rfl, rfl, e⟩
        · intro _ _
          refine ⟨fun q3 => ?_, fun q3 => ?_⟩
          · rw [if_neg q2, if_pos q3] at e
            exact ⟨(k14 + 1), by omega, (z_i1 k14).symm, rfl, rfl, e⟩
          · intro _ _
            refine ⟨fun q4 => ?_, fun q4 => ?_⟩
            · rw [if_neg q2, if_neg q3, if_pos q4] at e
              exact ⟨(k14 + 1), by omega, (z_i1 k14).symm, rfl, rfl, e⟩
            · intro _ _
              intro _ _
              refine ⟨fun q5 => ?_, fun q5 => ?_⟩
              · rw [if_neg q2, if_neg q3, if_neg q4, if_pos q5] at e
                exact ⟨(k14 + 1), by omega, (z_i1 k14).symm, rfl, rfl, e⟩
              · refine ⟨fun q6 => ?_, fun q6 => ?_⟩
                · rw [if_neg q2, if_neg q3, if_neg q4, if_neg q5, if_pos q6] at e
                  exact ⟨(k14 + 1), by omega, (z_i1 k14).symm, rfl, rfl, e⟩
                · intro _ _
                  intro _ _
                  rw [if_neg q2, if_neg q3, if_neg q4, if_neg q5, if_neg q6] at e
                  exact ⟨(k14 + 1), by omega, (z_i1 k14).symm, rfl, rfl, e⟩
    · rw [show 12 - k14 = 0 by omega, r_X0_teach_14] at e
      refine ⟨fun q7 => ?_, fun q7 => ?_⟩
      · exact e.symm
      · exact absurd hk (Nat.not_le.mpr (z_ltB2 (B := 12) q7 (by decide) (by omega)))
  · unfold D_X0_teach
    refine ⟨fun q8 => ?_, fun q8 => ?_⟩
    · have e : S = F_X0_teach c s w l S := by rw [F_X0_teach, if_pos q8]
      exact e.symm
    · refine ⟨fun q9 => ?_, fun q9 => ?_⟩
      · have e : r_X0_teach_14 c s w l (12 - 0) 0 S = F_X0_teach c s w l S := by rw [F_X0_teach, if_neg q8, if_pos q9]
        exact ⟨0, by omega, rfl, rfl, rfl, e⟩
      · have e : S = F_X0_teach c s w l S := by rw [F_X0_teach, if_neg q8, if_neg q9]
        exact e.symm
noncomputable abbrev m_X0_breakToys : g_M := (g_cn 0, yX0_breakToys, cX0_breakToys, 3, none, g_look2 ttX0_breakToys)
set_option maxRecDepth 20000 in
theorem mt_X0_breakToys : g_mt 7 = some m_X0_breakToys := rfl
noncomputable def D_X0_breakToys_2 (c : Nat) (s : Nat) (H2 : Int32 → v_Sf → Prop) (K : v_Sf → Prop) (x2 : Int32) (S : v_Sf) : Prop := (((Int32.ofInt 12) ≤ x2 → K S) ∧ (¬ ((Int32.ofInt 12) ≤ x2) → (((f_X7_hasGust s x2 S) = 0 → H2 (x2 + (Int32.ofInt 1)) S) ∧ (¬ ((f_X7_hasGust s x2 S) = 0) → H2 (x2 + (Int32.ofInt 1)) (z_s (g_X3_ofGust c s x2 (Int32.ofInt 98) S) s 12 ((S s 12) + (f_X3_ofGust c s x2 (Int32.ofInt 98) S)))))))
noncomputable def D_X0_breakToys (c : Nat) (s : Nat) (H2 : Int32 → v_Sf → Prop) (K : v_Sf → Prop) (S : v_Sf) : Prop := H2 (Int32.ofInt 0) S
set_option maxRecDepth 4000 in
theorem hd_X0_breakToys (L : Nat) (xs : Nat → Int32) {R : v_Rf} (hW : z_W R) {c : Nat} (hL : R 50 2 = some (c + 1)) (hc : z_cd c) (s : Nat) (hs : z_st s) (H2 : Int32 → v_Sf → Prop) (K : v_Sf → Prop) (k2 : ∀ (x2 : Int32) (S : v_Sf), H2 x2 S → D_X0_breakToys_2 c s H2 K x2 S) : ∀ n, (∀ (d : Nat) (x2 : Int32) (S : v_Sf), H2 x2 S → u_P L xs n d m_X0_breakToys 2 [(0, .ref 76), (1, .ref (s + 1)), (2, .int x2)] [] S R (z_V R K)) := by
  intro n
  induction n using Nat.strongRecOn with
  | ind n ih =>
    intro d x2 S hD
    have hD := k2 x2 S hD
    unfold D_X0_breakToys_2 at hD
    show u_P L xs n d m_X0_breakToys 2 [(0, .ref 76), (1, .ref (s + 1)), (2, .int x2)] [] S R _
    refine u_st1 rfl (fun _ => rfl) (fun m hm => ?_)
    refine u_st rfl (fun _ => rfl) ?_
    show u_P L xs m d m_X0_breakToys 5 [(0, .ref 76), (1, .ref (s + 1)), (2, .int x2)] [.int (Int32.ofInt 12), .int x2] S R _
    refine u_ic_ge rfl (fun h1 => ?_) (fun h1 => ?_)
    · have hD := hD.1 h1
      show u_P L xs m d m_X0_breakToys 42 [(0, .ref 76), (1, .ref (s + 1)), (2, .int x2)] [] S R _
      exact u_ret rfl rfl ⟨rfl, rfl, hD⟩
    · have hD := hD.2 h1
      show u_P L xs m d m_X0_breakToys 8 [(0, .ref 76), (1, .ref (s + 1)), (2, .int x2)] [] S R _
      refine u_st rfl (fun _ => rfl) ?_
      refine u_st rfl (fun _ => rfl) ?_
      show u_P L xs m d m_X0_breakToys 10 [(0, .ref 76), (1, .ref (s + 1)), (2, .int x2)] [.int x2, .ref (s + 1)] S R _
      refine u_cv (rest := []) rfl (by decide) mt_X7_hasGust (z_st0 hs) rfl rfl rfl (Nat.le_of_ble_eq_true rfl) (Nat.le_of_ble_eq_true rfl) (Nat.le_of_ble_eq_true rfl) (fun d' => c_X7_hasGust L xs m d' s hs x2 S R) ?_
      rintro _ _ _ ⟨_, rfl, rfl, rfl, rfl⟩
      show u_P L xs m d m_X0_breakToys 13 [(0, .ref 76), (1, .ref (s + 1)), (2, .int x2)] [.int (f_X7_hasGust s x2 S)] S R _
      refine u_if_eq rfl (fun h2 => ?_) (fun h2 => ?_)
      · have hD := hD.1 h2
        show u_P L xs m d m_X0_breakToys 36 [(0, .ref 76), (1, .ref (s + 1)), (2, .int x2)] [] S R _
        refine u_st rfl (fun _ => rfl) ?_
        refine u_st rfl (fun _ => rfl) ?_
        refine u_lc (b := [(0, .ref 76), (1, .ref (s + 1)), (2, .int (x2 + (Int32.ofInt 1)))]) (show ([2, 0, 1] : List Nat).Nodup by decide) (show ([0, 1, 2] : List Nat).Nodup by decide) (fun i => match i with | 0 => rfl | 1 => rfl | 2 => rfl | _ + 3 => rfl) ?_
        exact (ih m hm) d (x2 + (Int32.ofInt 1)) S hD
      · have hD := hD.2 h2
        show u_P L xs m d m_X0_breakToys 16 [(0, .ref 76), (1, .ref (s + 1)), (2, .int x2)] [] S R _
        refine u_st rfl (fun _ => rfl) ?_
        refine u_st rfl (fun _ => rfl) ?_
        show u_P L xs m d m_X0_breakToys 18 [(0, .ref 76), (1, .ref (s + 1)), (2, .int x2)] [.ref (s + 1), .ref (s + 1)] S R _
        refine u_getE (v := S s 12) rfl (z_st0 hs) rfl rfl ?_
        refine u_st rfl (fun _ => rfl) ?_
        show u_P L xs m d m_X0_breakToys 22 [(0, .ref 76), (1, .ref (s + 1)), (2, .int x2)] [.ref 76, .int (S s 12), .ref (s + 1)] S R _
        refine u_getr rfl rfl rfl ?_
        refine u_st rfl (fun _ => rfl) ?_
        refine u_st rfl (fun _ => rfl) ?_
        refine u_st rfl (fun _ => rfl) ?_
        show u_P L xs m d m_X0_breakToys 29 [(0, .ref 76), (1, .ref (s + 1)), (2, .int x2)] [.int (Int32.ofInt 98), .int x2, .ref (s + 1), .ref 51, .int (S s 12), .ref (s + 1)] S R _
        refine u_cv (rest := [.int (S s 12), .ref (s + 1)]) rfl (by decide) mt_X3_ofGust rfl rfl rfl rfl (Nat.le_of_ble_eq_true rfl) (Nat.le_of_ble_eq_true rfl) (Nat.le_of_ble_eq_true rfl) (fun d' => c_X3_ofGust L xs m d' hW hL hc s hs x2 (Int32.ofInt 98) S) ?_
        rintro _ _ _ ⟨_, rfl, rfl, rfl, rfl⟩
        refine u_st rfl (fun _ => rfl) ?_
        show u_P L xs m d m_X0_breakToys 33 [(0, .ref 76), (1, .ref (s + 1)), (2, .int x2)] [.int ((S s 12) + (f_X3_ofGust c s x2 (Int32.ofInt 98) S)), .ref (s + 1)] (g_X3_ofGust c s x2 (Int32.ofInt 98) S) R _
        refine u_put rfl (z_st0 hs) rfl ?_
        refine u_st rfl (fun _ => rfl) ?_
        refine u_st rfl (fun _ => rfl) ?_
        refine u_lc (b := [(0, .ref 76), (1, .ref (s + 1)), (2, .int (x2 + (Int32.ofInt 1)))]) (show ([2, 0, 1] : List Nat).Nodup by decide) (show ([0, 1, 2] : List Nat).Nodup by decide) (fun i => match i with | 0 => rfl | 1 => rfl | 2 => rfl | _ + 3 => rfl) ?_
        exact (ih m hm) d (x2 + (Int32.ofInt 1)) (z_s (g_X3_ofGust c s x2 (Int32.ofInt 98) S) s 12 ((S s 12) + (f_X3_ofGust c s x2 (Int32.ofInt 98) S))) hD
set_option maxRecDepth 4000 in
theorem w_X0_breakToys (L : Nat) (xs : Nat → Int32) {R : v_Rf} (hW : z_W R) {c : Nat} (hL : R 50 2 = some (c + 1)) (hc : z_cd c) (s : Nat) (hs : z_st s) (H2 : Int32 → v_Sf → Prop) (K : v_Sf → Prop) (k2 : ∀ (x2 : Int32) (S : v_Sf), H2 x2 S → D_X0_breakToys_2 c s H2 K x2 S) (n d : Nat) (S : v_Sf) (hD : D_X0_breakToys c s H2 K S) : u_P L xs n d m_X0_breakToys 0 (lv_args 0 [.ref 76, .ref (s + 1)]) [] S R (z_V R K) := by
  unfold D_X0_breakToys at hD
  show u_P L xs n d m_X0_breakToys 0 [(0, .ref 76), (1, .ref (s + 1))] [] S R _
  refine u_st rfl (fun _ => rfl) ?_
  refine u_st rfl (fun _ => rfl) ?_
  refine u_lc (b := [(0, .ref 76), (1, .ref (s + 1)), (2, .int (Int32.ofInt 0))]) (show ([2, 0, 1] : List Nat).Nodup by decide) (show ([0, 1, 2] : List Nat).Nodup by decide) (fun i => match i with | 0 => rfl | 1 => rfl | 2 => rfl | _ + 3 => rfl) ?_
  exact (hd_X0_breakToys L xs hW hL hc s hs H2 K k2 n) d (Int32.ofInt 0) S hD
noncomputable def r_X0_breakToys_2 (c : Nat) (s : Nat) : Nat → Nat → v_Sf → v_Sf
  | 0, k2, S => S
  | r + 1, k2, S => (if (f_X7_hasGust s (z_i k2) S) = 0 then r_X0_breakToys_2 c s r (k2 + 1) S else r_X0_breakToys_2 c s r (k2 + 1) (z_s (g_X3_ofGust c s (z_i k2) (Int32.ofInt 98) S) s 12 ((S s 12) + (f_X3_ofGust c s (z_i k2) (Int32.ofInt 98) S))))
noncomputable def F_X0_breakToys (c : Nat) (s : Nat) (S : v_Sf) : v_Sf := r_X0_breakToys_2 c s (12 - 0) 0 S
noncomputable def g_X0_breakToys (c : Nat) (s : Nat) (S : v_Sf) : v_Sf := F_X0_breakToys c s S
theorem c_X0_breakToys (L : Nat) (xs : Nat → Int32) (n d : Nat) {R : v_Rf} (hW : z_W R) {c : Nat} (hL : R 50 2 = some (c + 1)) (hc : z_cd c) (s : Nat) (hs : z_st s) (S : v_Sf) : u_P L xs n d m_X0_breakToys 0 (lv_args 0 [.ref 76, .ref (s + 1)]) [] S R (z_V R (fun S1 => g_X0_breakToys c s S = S1)) := by
  refine w_X0_breakToys L xs hW hL hc s hs (fun y2 T => ∃ (k2 : Nat), k2 ≤ 12 ∧ z_i k2 = y2 ∧ r_X0_breakToys_2 c s (12 - k2) k2 T = F_X0_breakToys c s S) (fun S1 => g_X0_breakToys c s S = S1) ?_ n d S ?_
  · rintro _ S1 ⟨k2, hkk, rfl, e⟩
    unfold D_X0_breakToys_2
    rcases Nat.lt_or_ge k2 (12) with hk | hk
    · rw [show 12 - k2 = (12 - (k2 + 1)) + 1 by omega, r_X0_breakToys_2] at e
      refine ⟨fun q1 => ?_, fun q1 => ?_⟩
      · exact absurd hk (Nat.not_lt.mpr (z_leB2 (B := 12) q1 (by decide) (by omega)))
      · refine ⟨fun q2 => ?_, fun q2 => ?_⟩
        · rw [if_pos q2] at e
          exact ⟨(k2 + 1), by omega, (z_i1 k2).symm, e⟩
        · rw [if_neg q2] at e
          exact ⟨(k2 + 1), by omega, (z_i1 k2).symm, e⟩
    · rw [show 12 - k2 = 0 by omega, r_X0_breakToys_2] at e
      refine ⟨fun q3 => ?_, fun q3 => ?_⟩
      · exact e.symm
      · exact absurd hk (Nat.not_le.mpr (z_ltB2 (B := 12) q3 (by decide) (by omega)))
  · unfold D_X0_breakToys
    have e : r_X0_breakToys_2 c s (12 - 0) 0 S = F_X0_breakToys c s S := by rw [F_X0_breakToys]
    exact ⟨0, by omega, rfl, e⟩
noncomputable abbrev m_X0_quarrelAll : g_M := (g_cn 0, yX0_quarrelAll, cX0_quarrelAll, 5, none, g_look2 ttX0_quarrelAll)
set_option maxRecDepth 20000 in
theorem mt_X0_quarrelAll : g_mt 8 = some m_X0_quarrelAll := rfl
noncomputable def D_X0_quarrelAll_2 (c : Nat) (s : Nat) (H2 : Int32 → v_Sf → Prop) (H12 : Int32 → Int32 → v_Sf → Prop) (K : v_Sf → Prop) (x2 : Int32) (S : v_Sf) : Prop := (((Int32.ofInt 12) ≤ x2 → K S) ∧ (¬ ((Int32.ofInt 12) ≤ x2) → H12 x2 (x2 + (Int32.ofInt 1)) S))
noncomputable def D_X0_quarrelAll_12 (c : Nat) (s : Nat) (H2 : Int32 → v_Sf → Prop) (H12 : Int32 → Int32 → v_Sf → Prop) (K : v_Sf → Prop) (x2 : Int32) (x3 : Int32) (S : v_Sf) : Prop := (((Int32.ofInt 12) ≤ x3 → H2 (x2 + (Int32.ofInt 1)) S) ∧ (¬ ((Int32.ofInt 12) ≤ x3) → (((f_X7_hasGust s x2 S) = 0 → H12 x2 (x3 + (Int32.ofInt 1)) S) ∧ (¬ ((f_X7_hasGust s x2 S) = 0) → (((f_X7_hasGust s x3 S) = 0 → H12 x2 (x3 + (Int32.ofInt 1)) S) ∧ (¬ ((f_X7_hasGust s x3 S) = 0) → (0 ≤ x2.toInt → x2.toInt < 12 → (0 ≤ x3.toInt → x3.toInt < 12 → (((¬ (S (s + 4) x2.toInt.toNat) = (S (s + 4) x3.toInt.toNat)) → H12 x2 (x3 + (Int32.ofInt 1)) S) ∧ (¬ (¬ (S (s + 4) x2.toInt.toNat) = (S (s + 4) x3.toInt.toNat)) → (((f_X3_atOdds c s x2 x3 S) = 0 → H12 x2 (x3 + (Int32.ofInt 1)) (g_X3_atOdds c s x2 x3 S)) ∧ (¬ ((f_X3_atOdds c s x2 x3 S) = 0) → (0 ≤ x2.toInt → x2.toInt < 12 → (0 ≤ x2.toInt → x2.toInt < 12 → (0 ≤ x3.toInt → x3.toInt < 12 → (0 ≤ x3.toInt → x3.toInt < 12 → H12 x2 (x3 + (Int32.ofInt 1)) (z_s (z_s (z_s (g_X3_atOdds c s x2 x3 S) s 13 (((g_X3_atOdds c s x2 x3 S) s 13) + (Int32.ofInt 1))) (s + 3) x2.toInt.toNat (z_min (Int32.ofInt 9) (((g_X3_atOdds c s x2 x3 S) (s + 3) x2.toInt.toNat) + (Int32.ofInt 1)))) (s + 3) x3.toInt.toNat (z_min (Int32.ofInt 9) (((z_s (z_s (g_X3_atOdds c s x2 x3 S) s 13 (((g_X3_atOdds c s x2 x3 S) s 13) + (Int32.ofInt 1))) (s + 3) x2.toInt.toNat (z_min (Int32.ofInt 9) (((g_X3_atOdds c s x2 x3 S) (s + 3) x2.toInt.toNat) + (Int32.ofInt 1)))) (s + 3) x3.toInt.toNat) + (Int32.ofInt 1))))))))))))))))))))
noncomputable def D_X0_quarrelAll (c : Nat) (s : Nat) (H2 : Int32 → v_Sf → Prop) (H12 : Int32 → Int32 → v_Sf → Prop) (K : v_Sf → Prop) (S : v_Sf) : Prop := H2 (Int32.ofInt 0) S
set_option maxRecDepth 4000 in
theorem hd_X0_quarrelAll (L : Nat) (xs : Nat → Int32) {R : v_Rf} (hW : z_W R) {c : Nat} (hL : R 50 2 = some (c + 1)) (hc : z_cd c) (s : Nat) (hs : z_st s) (H2 : Int32 → v_Sf → Prop) (H12 : Int32 → Int32 → v_Sf → Prop) (K : v_Sf → Prop) (k2 : ∀ (x2 : Int32) (S : v_Sf), H2 x2 S → D_X0_quarrelAll_2 c s H2 H12 K x2 S) (k12 : ∀ (x2 : Int32) (x3 : Int32) (S : v_Sf), H12 x2 x3 S → D_X0_quarrelAll_12 c s H2 H12 K x2 x3 S) : ∀ n, (∀ (d : Nat) (x2 : Int32) (S : v_Sf), H2 x2 S → u_P L xs n d m_X0_quarrelAll 2 [(0, .ref 76), (1, .ref (s + 1)), (2, .int x2)] [] S R (z_V R K)) ∧ (∀ (d : Nat) (j3 : Int32) (x2 : Int32) (S : v_Sf), H2 x2 S → u_P L xs n d m_X0_quarrelAll 2 [(0, .ref 76), (1, .ref (s + 1)), (2, .int x2), (3, .int j3)] [] S R (z_V R K)) ∧ (∀ (d : Nat) (j3 : Int32) (j4 : Int32) (x2 : Int32) (S : v_Sf), H2 x2 S → u_P L xs n d m_X0_quarrelAll 2 [(0, .ref 76), (1, .ref (s + 1)), (2, .int x2), (3, .int j3), (4, .int j4)] [] S R (z_V R K)) ∧ (∀ (d : Nat) (x2 : Int32) (x3 : Int32) (S : v_Sf), H12 x2 x3 S → u_P L xs n d m_X0_quarrelAll 12 [(0, .ref 76), (1, .ref (s + 1)), (2, .int x2), (3, .int x3)] [] S R (z_V R K)) ∧ (∀ (d : Nat) (j4 : Int32) (x2 : Int32) (x3 : Int32) (S : v_Sf), H12 x2 x3 S → u_P L xs n d m_X0_quarrelAll 12 [(0, .ref 76), (1, .ref (s + 1)), (2, .int x2), (3, .int x3), (4, .int j4)] [] S R (z_V R K)) := by
  intro n
  induction n using Nat.strongRecOn with
  | ind n ih =>
    refine ⟨?_, ?_, ?_, ?_, ?_⟩
    · intro d x2 S hD
      have hD := k2 x2 S hD
      unfold D_X0_quarrelAll_2 at hD
      show u_P L xs n d m_X0_quarrelAll 2 [(0, .ref 76), (1, .ref (s + 1)), (2, .int x2)] [] S R _
      refine u_st1 rfl (fun _ => rfl) (fun m hm => ?_)
      refine u_st rfl (fun _ => rfl) ?_
      show u_P L xs m d m_X0_quarrelAll 5 [(0, .ref 76), (1, .ref (s + 1)), (2, .int x2)] [.int (Int32.ofInt 12), .int x2] S R _
      refine u_ic_ge rfl (fun h1 => ?_) (fun h1 => ?_)
      · have hD := hD.1 h1
        show u_P L xs m d m_X0_quarrelAll 134 [(0, .ref 76), (1, .ref (s + 1)), (2, .int x2)] [] S R _
        exact u_ret rfl rfl ⟨rfl, rfl, hD⟩
      · have hD := hD.2 h1
        show u_P L xs m d m_X0_quarrelAll 8 [(0, .ref 76), (1, .ref (s + 1)), (2, .int x2)] [] S R _
        refine u_st rfl (fun _ => rfl) ?_
        refine u_st rfl (fun _ => rfl) ?_
        refine u_st rfl (fun _ => rfl) ?_
        refine u_st rfl (fun _ => rfl) ?_
        refine u_lc (b := [(0, .ref 76), (1, .ref (s + 1)), (2, .int x2), (3, .int (x2 + (Int32.ofInt 1)))]) (show ([3, 0, 1, 2] : List Nat).Nodup by decide) (show ([0, 1, 2, 3] : List Nat).Nodup by decide) (fun i => match i with | 0 => rfl | 1 => rfl | 2 => rfl | 3 => rfl | _ + 4 => rfl) ?_
        exact (ih m hm).2.2.2.1 d x2 (x2 + (Int32.ofInt 1)) S hD
    · intro d j3 x2 S hD
      have hD := k2 x2 S hD
      unfold D_X0_quarrelAll_2 at hD
      show u_P L xs n d m_X0_quarrelAll 2 [(0, .ref 76), (1, .ref (s + 1)), (2, .int x2), (3, .int j3)] [] S R _
      refine u_st1 rfl (fun _ => rfl) (fun m hm => ?_)
      refine u_st rfl (fun _ => rfl) ?_
      show u_P L xs m d m_X0_quarrelAll 5 [(0, .ref 76), (1, .ref (s + 1)), (2, .int x2), (3, .int j3)] [.int (Int32.ofInt 12), .int x2] S R _
      refine u_ic_ge rfl (fun h1 => ?_) (fun h1 => ?_)
      · have hD := hD.1 h1
        show u_P L xs m d m_X0_quarrelAll 134 [(0, .ref 76), (1, .ref (s + 1)), (2, .int x2), (3, .int j3)] [] S R _
        exact u_ret rfl rfl ⟨rfl, rfl, hD⟩
      · have hD := hD.2 h1
        show u_P L xs m d m_X0_quarrelAll 8 [(0, .ref 76), (1, .ref (s + 1)), (2, .int x2), (3, .int j3)] [] S R _
        refine u_st rfl (fun _ => rfl) ?_
        refine u_st rfl (fun _ => rfl) ?_
        refine u_st rfl (fun _ => rfl) ?_
        refine u_st rfl (fun _ => rfl) ?_
        refine u_lc (b := [(0, .ref 76), (1, .ref (s + 1)), (2, .int x2), (3, .int (x2 + (Int32.ofInt 1)))]) (show ([3, 0, 1, 2] : List Nat).Nodup by decide) (show ([0, 1, 2, 3] : List Nat).Nodup by decide) (fun i => match i with | 0 => rfl | 1 => rfl | 2 => rfl | 3 => rfl | _ + 4 => rfl) ?_
        exact (ih m hm).2.2.2.1 d x2 (x2 + (Int32.ofInt 1)) S hD
    · intro d j3 j4 x2 S hD
      have hD := k2 x2 S hD
      unfold D_X0_quarrelAll_2 at hD
      show u_P L xs n d m_X0_quarrelAll 2 [(0, .ref 76), (1, .ref (s + 1)), (2, .int x2), (3, .int j3), (4, .int j4)] [] S R _
      refine u_st1 rfl (fun _ => rfl) (fun m hm => ?_)
      refine u_st rfl (fun _ => rfl) ?_
      show u_P L xs m d m_X0_quarrelAll 5 [(0, .ref 76), (1, .ref (s + 1)), (2, .int x2), (3, .int j3), (4, .int j4)] [.int (Int32.ofInt 12), .int x2] S R _
      refine u_ic_ge rfl (fun h1 => ?_) (fun h1 => ?_)
      · have hD := hD.1 h1
        show u_P L xs m d m_X0_quarrelAll 134 [(0, .ref 76), (1, .ref (s + 1)), (2, .int x2), (3, .int j3), (4, .int j4)] [] S R _
        exact u_ret rfl rfl ⟨rfl, rfl, hD⟩
      · have hD := hD.2 h1
        show u_P L xs m d m_X0_quarrelAll 8 [(0, .ref 76), (1, .ref (s + 1)), (2, .int x2), (3, .int j3), (4, .int j4)] [] S R _
        refine u_st rfl (fun _ => rfl) ?_
        refine u_st rfl (fun _ => rfl) ?_
        refine u_st rfl (fun _ => rfl) ?_
        refine u_st rfl (fun _ => rfl) ?_
        refine u_lc (b := [(0, .ref 76), (1, .ref (s + 1)), (2, .int x2), (3, .int (x2 + (Int32.ofInt 1))), (4, .int j4)]) (show ([3, 0, 1, 2, 4] : List Nat).Nodup by decide) (show ([0, 1, 2, 3, 4] : List Nat).Nodup by decide) (fun i => match i with | 0 => rfl | 1 => rfl | 2 => rfl | 3 => rfl | 4 => rfl | _ + 5 => rfl) ?_
        exact (ih m hm).2.2.2.2 d j4 x2 (x2 + (Int32.ofInt 1)) S hD
    · intro d x2 x3 S hD
      have hD := k12 x2 x3 S hD
      unfold D_X0_quarrelAll_12 at hD
      show u_P L xs n d m_X0_quarrelAll 12 [(0, .ref 76), (1, .ref (s + 1)), (2, .int x2), (3, .int x3)] [] S R _
      refine u_st1 rfl (fun _ => rfl) (fun m hm => ?_)
      refine u_st rfl (fun _ => rfl) ?_
      show u_P L xs m d m_X0_quarrelAll 15 [(0, .ref 76), (1, .ref (s + 1)), (2, .int x2), (3, .int x3)] [.int (Int32.ofInt 12), .int x3] S R _
      refine u_ic_ge rfl (fun h1 => ?_) (fun h1 => ?_)
      · have hD := hD.1 h1
        show u_P L xs m d m_X0_quarrelAll 128 [(0, .ref 76), (1, .ref (s + 1)), (2, .int x2), (3, .int x3)] [] S R _
        refine u_st rfl (fun _ => rfl) ?_
        refine u_st rfl (fun _ => rfl) ?_
        refine u_lc (b := [(0, .ref 76), (1, .ref (s + 1)), (2, .int (x2 + (Int32.ofInt 1))), (3, .int x3)]) (show ([2, 0, 1, 3] : List Nat).Nodup by decide) (show ([0, 1, 2, 3] : List Nat).Nodup by decide) (fun i => match i with | 0 => rfl | 1 => rfl | 2 => rfl | 3 => rfl | _ + 4 => rfl) ?_
        exact (ih m hm).2.1 d x3 (x2 + (Int32.ofInt 1)) S hD
      · have hD := hD.2 h1
        show u_P L xs m d m_X0_quarrelAll 18 [(0, .ref 76), (1, .ref (s + 1)), (2, .int x2), (3, .int x3)] [] S R _
        refine u_st rfl (fun _ => rfl) ?_
        refine u_st rfl (fun _ => rfl) ?_
        show u_P L xs m d m_X0_quarrelAll 20 [(0, .ref 76), (1, .ref (s + 1)), (2, .int x2), (3, .int x3)] [.int x2, .ref (s + 1)] S R _
        refine u_cv (rest := []) rfl (by decide) mt_X7_hasGust (z_st0 hs) rfl rfl rfl (Nat.le_of_ble_eq_true rfl) (Nat.le_of_ble_eq_true rfl) (Nat.le_of_ble_eq_true rfl) (fun d' => c_X7_hasGust L xs m d' s hs x2 S R) ?_
        rintro _ _ _ ⟨_, rfl, rfl, rfl, rfl⟩
        show u_P L xs m d m_X0_quarrelAll 23 [(0, .ref 76), (1, .ref (s + 1)), (2, .int x2), (3, .int x3)] [.int (f_X7_hasGust s x2 S)] S R _
        refine u_if_eq rfl (fun h2 => ?_) (fun h2 => ?_)
        · have hD := hD.1 h2
          show u_P L xs m d m_X0_quarrelAll 53 [(0, .ref 76), (1, .ref (s + 1)), (2, .int x2), (3, .int x3)] [] S R _
          refine u_st rfl (fun _ => rfl) ?_
          refine u_st rfl (fun _ => rfl) ?_
          refine u_st rfl (fun _ => rfl) ?_
          show u_P L xs m d m_X0_quarrelAll 58 [(4, .int (Int32.ofInt 0)), (0, .ref 76), (1, .ref (s + 1)), (2, .int x2), (3, .int x3)] [.int (Int32.ofInt 0)] S R _
          refine u_st rfl (fun _ => rfl) ?_
          refine u_st rfl (fun _ => rfl) ?_
          refine u_st rfl (fun _ => rfl) ?_
          refine u_lc (b := [(0, .ref 76), (1, .ref (s + 1)), (2, .int x2), (3, .int (x3 + (Int32.ofInt 1))), (4, .int (Int32.ofInt 0))]) (show ([3, 4, 0, 1, 2] : List Nat).Nodup by decide) (show ([0, 1, 2, 3, 4] : List Nat).Nodup by decide) (fun i => match i with | 0 => rfl | 1 => rfl | 2 => rfl | 3 => rfl | 4 => rfl | _ + 5 => rfl) ?_
          exact (ih m hm).2.2.2.2 d (Int32.ofInt 0) x2 (x3 + (Int32.ofInt 1)) S hD
        · have hD := hD.2 h2
          show u_P L xs m d m_X0_quarrelAll 26 [(0, .ref 76), (1, .ref (s + 1)), (2, .int x2), (3, .int x3)] [] S R _
          refine u_st rfl (fun _ => rfl) ?_
          refine u_st rfl (fun _ => rfl) ?_
          show u_P L xs m d m_X0_quarrelAll 28 [(0, .ref 76), (1, .ref (s + 1)), (2, .int x2), (3, .int x3)] [.int x3, .ref (s + 1)] S R _
          refine u_cv (rest := []) rfl (by decide) mt_X7_hasGust (z_st0 hs) rfl rfl rfl (Nat.le_of_ble_eq_true rfl) (Nat.le_of_ble_eq_true rfl) (Nat.le_of_ble_eq_true rfl) (fun d' => c_X7_hasGust L xs m d' s hs x3 S R) ?_
          rintro _ _ _ ⟨_, rfl, rfl, rfl, rfl⟩
          show u_P L xs m d m_X0_quarrelAll 31 [(0, .ref 76), (1, .ref (s + 1)), (2, .int x2), (3, .int x3)] [.int (f_X7_hasGust s x3 S)] S R _
          refine u_if_eq rfl (fun h3 => ?_) (fun h3 => ?_)
          · have hD := hD.1 h3
            show u_P L xs m d m_X0_quarrelAll 53 [(0, .ref 76), (1, .ref (s + 1)), (2, .int x2), (3, .int x3)] [] S R _
            refine u_st rfl (fun _ => rfl) ?_
            refine u_st rfl (fun _ => rfl) ?_
            refine u_st rfl (fun _ => rfl) ?_
            show u_P L xs m d m_X0_quarrelAll 58 [(4, .int (Int32.ofInt 0)), (0, .ref 76), (1, .ref (s + 1)), (2, .int x2), (3, .int x3)] [.int (Int32.ofInt 0)] S R _
            refine u_st rfl (fun _ => rfl) ?_
            refine u_st rfl (fun _ => rfl) ?_
            refine u_st rfl (fun _ => rfl) ?_
            refine u_lc (b := [(0, .ref 76), (1, .ref (s + 1)), (2, .int x2), (3, .int (x3 + (Int32.ofInt 1))), (4, .int (Int32.ofInt 0))]) (show ([3, 4, 0, 1, 2] : List Nat).Nodup by decide) (show ([0, 1, 2, 3, 4] : List Nat).Nodup by decide) (fun i => match i with | 0 => rfl | 1 => rfl | 2 => rfl | 3 => rfl | 4 => rfl | _ + 5 => rfl) ?_
            exact (ih m hm).2.2.2.2 d (Int32.ofInt 0) x2 (x3 + (Int32.ofInt 1)) S hD
          · have hD := hD.2 h3
            show u_P L xs m d m_X0_quarrelAll 34 [(0, .ref 76), (1, .ref (s + 1)), (2, .int x2), (3, .int x3)] [] S R _
            refine u_st rfl (fun _ => rfl) ?_
            show u_P L xs m d m_X0_quarrelAll 35 [(0, .ref 76), (1, .ref (s + 1)), (2, .int x2), (3, .int x3)] [.ref (s + 1)] S R _
            refine u_getr rfl (z_st0 hs) rfl ?_
            refine u_st rfl (fun _ => rfl) ?_
            show u_P L xs m d m_X0_quarrelAll 39 [(0, .ref 76), (1, .ref (s + 1)), (2, .int x2), (3, .int x3)] [.int x2, .ref (s + 5)] S R _
            refine u_ialdE (v := S (s + 4) x2.toInt.toNat) rfl (z_st4 hs) rfl (fun b41 b42 => ?_)
            have hD := hD b41 b42
            show u_P L xs m d m_X0_quarrelAll 40 [(0, .ref 76), (1, .ref (s + 1)), (2, .int x2), (3, .int x3)] [.int (S (s + 4) x2.toInt.toNat)] S R _
            refine u_st rfl (fun _ => rfl) ?_
            show u_P L xs m d m_X0_quarrelAll 41 [(0, .ref 76), (1, .ref (s + 1)), (2, .int x2), (3, .int x3)] [.ref (s + 1), .int (S (s + 4) x2.toInt.toNat)] S R _
            refine u_getr rfl (z_st0 hs) rfl ?_
            refine u_st rfl (fun _ => rfl) ?_
            show u_P L xs m d m_X0_quarrelAll 45 [(0, .ref 76), (1, .ref (s + 1)), (2, .int x2), (3, .int x3)] [.int x3, .ref (s + 5), .int (S (s + 4) x2.toInt.toNat)] S R _
            refine u_ialdE (v := S (s + 4) x3.toInt.toNat) rfl (z_st4 hs) rfl (fun b51 b52 => ?_)
            have hD := hD b51 b52
            show u_P L xs m d m_X0_quarrelAll 46 [(0, .ref 76), (1, .ref (s + 1)), (2, .int x2), (3, .int x3)] [.int (S (s + 4) x3.toInt.toNat), .int (S (s + 4) x2.toInt.toNat)] S R _
            refine u_ic_ne rfl (fun h6 => ?_) (fun h6 => ?_)
            · have hD := hD.1 h6
              show u_P L xs m d m_X0_quarrelAll 53 [(0, .ref 76), (1, .ref (s + 1)), (2, .int x2), (3, .int x3)] [] S R _
              refine u_st rfl (fun _ => rfl) ?_
              refine u_st rfl (fun _ => rfl) ?_
              refine u_st rfl (fun _ => rfl) ?_
              show u_P L xs m d m_X0_quarrelAll 58 [(4, .int (Int32.ofInt 0)), (0, .ref 76), (1, .ref (s + 1)), (2, .int x2), (3, .int x3)] [.int (Int32.ofInt 0)] S R _
              refine u_st rfl (fun _ => rfl) ?_
              refine u_st rfl (fun _ => rfl) ?_
              refine u_st rfl (fun _ => rfl) ?_
              refine u_lc (b := [(0, .ref 76), (1, .ref (s + 1)), (2, .int x2), (3, .int (x3 + (Int32.ofInt 1))), (4, .int (Int32.ofInt 0))]) (show ([3, 4, 0, 1, 2] : List Nat).Nodup by decide) (show ([0, 1, 2, 3, 4] : List Nat).Nodup by decide) (fun i => match i with | 0 => rfl | 1 => rfl | 2 => rfl | 3 => rfl | 4 => rfl | _ + 5 => rfl) ?_
              exact (ih m hm).2.2.2.2 d (Int32.ofInt 0) x2 (x3 + (Int32.ofInt 1)) S hD
            · have hD := hD.2 h6
              show u_P L xs m d m_X0_quarrelAll 49 [(0, .ref 76), (1, .ref (s + 1)), (2, .int x2), (3, .int x3)] [] S R _
              refine u_st rfl (fun _ => rfl) ?_
              refine u_st rfl (fun _ => rfl) ?_
              refine u_st rfl (fun _ => rfl) ?_
              refine u_st rfl (fun _ => rfl) ?_
              show u_P L xs m d m_X0_quarrelAll 58 [(4, .int (Int32.ofInt 1)), (0, .ref 76), (1, .ref (s + 1)), (2, .int x2), (3, .int x3)] [.int (Int32.ofInt 1)] S R _
              refine u_st rfl (fun _ => rfl) ?_
              refine u_st rfl (fun _ => rfl) ?_
              show u_P L xs m d m_X0_quarrelAll 62 [(4, .int (Int32.ofInt 1)), (0, .ref 76), (1, .ref (s + 1)), (2, .int x2), (3, .int x3)] [.ref 76] S R _
              refine u_getr rfl rfl rfl ?_
              refine u_st rfl (fun _ => rfl) ?_
              refine u_st rfl (fun _ => rfl) ?_
              refine u_st rfl (fun _ => rfl) ?_
              show u_P L xs m d m_X0_quarrelAll 68 [(4, .int (Int32.ofInt 1)), (0, .ref 76), (1, .ref (s + 1)), (2, .int x2), (3, .int x3)] [.int x3, .int x2, .ref (s + 1), .ref 51] S R _
              refine u_cv (rest := []) rfl (by decide) mt_X3_atOdds rfl rfl rfl rfl (Nat.le_of_ble_eq_true rfl) (Nat.le_of_ble_eq_true rfl) (Nat.le_of_ble_eq_true rfl) (fun d' => c_X3_atOdds L xs m d' hW hL hc s hs x2 x3 S) ?_
              rintro _ _ _ ⟨_, rfl, rfl, rfl, rfl⟩
              show u_P L xs m d m_X0_quarrelAll 71 [(4, .int (Int32.ofInt 1)), (0, .ref 76), (1, .ref (s + 1)), (2, .int x2), (3, .int x3)] [.int (f_X3_atOdds c s x2 x3 S)] (g_X3_atOdds c s x2 x3 S) R _
              refine u_if_eq rfl (fun h7 => ?_) (fun h7 => ?_)
              · have hD := hD.1 h7
                show u_P L xs m d m_X0_quarrelAll 122 [(4, .int (Int32.ofInt 1)), (0, .ref 76), (1, .ref (s + 1)), (2, .int x2), (3, .int x3)] [] (g_X3_atOdds c s x2 x3 S) R _
                refine u_st rfl (fun _ => rfl) ?_
                refine u_st rfl (fun _ => rfl) ?_
                refine u_lc (b := [(0, .ref 76), (1, .ref (s + 1)), (2, .int x2), (3, .int (x3 + (Int32.ofInt 1))), (4, .int (Int32.ofInt 1))]) (show ([3, 4, 0, 1, 2] : List Nat).Nodup by decide) (show ([0, 1, 2, 3, 4] : List Nat).Nodup by decide) (fun i => match i with | 0 => rfl | 1 => rfl | 2 => rfl | 3 => rfl | 4 => rfl | _ + 5 => rfl) ?_
                exact (ih m hm).2.2.2.2 d (Int32.ofInt 1) x2 (x3 + (Int32.ofInt 1)) (g_X3_atOdds c s x2 x3 S) hD
              · have hD := hD.2 h7
                show u_P L xs m d m_X0_quarrelAll 74 [(4, .int (Int32.ofInt 1)), (0, .ref 76), (1, .ref (s + 1)), (2, .int x2), (3, .int x3)] [] (g_X3_atOdds c s x2 x3 S) R _
                refine u_st rfl (fun _ => rfl) ?_
                refine u_st rfl (fun _ => rfl) ?_
                show u_P L xs m d m_X0_quarrelAll 76 [(4, .int (Int32.ofInt 1)), (0, .ref 76), (1, .ref (s + 1)), (2, .int x2), (3, .int x3)] [.ref (s + 1), .ref (s + 1)] (g_X3_atOdds c s x2 x3 S) R _
                refine u_getE (v := (g_X3_atOdds c s x2 x3 S) s 13) rfl (z_st0 hs) rfl rfl ?_
                refine u_st rfl (fun _ => rfl) ?_
                refine u_st rfl (fun _ => rfl) ?_
                show u_P L xs m d m_X0_quarrelAll 81 [(4, .int (Int32.ofInt 1)), (0, .ref 76), (1, .ref (s + 1)), (2, .int x2), (3, .int x3)] [.int (((g_X3_atOdds c s x2 x3 S) s 13) + (Int32.ofInt 1)), .ref (s + 1)] (g_X3_atOdds c s x2 x3 S) R _
                refine u_put rfl (z_st0 hs) rfl ?_
                refine u_st rfl (fun _ => rfl) ?_
                show u_P L xs m d m_X0_quarrelAll 85 [(4, .int (Int32.ofInt 1)), (0, .ref 76), (1, .ref (s + 1)), (2, .int x2), (3, .int x3)] [.ref (s + 1)] (z_s (g_X3_atOdds c s x2 x3 S) s 13 (((g_X3_atOdds c s x2 x3 S) s 13) + (Int32.ofInt 1))) R _
                refine u_getr rfl (z_st0 hs) rfl ?_
                refine u_st rfl (fun _ => rfl) ?_
                refine u_st rfl (fun _ => rfl) ?_
                refine u_st rfl (fun _ => rfl) ?_
                show u_P L xs m d m_X0_quarrelAll 92 [(4, .int (Int32.ofInt 1)), (0, .ref 76), (1, .ref (s + 1)), (2, .int x2), (3, .int x3)] [.ref (s + 1), .int (Int32.ofInt 9), .int x2, .ref (s + 4)] (z_s (g_X3_atOdds c s x2 x3 S) s 13 (((g_X3_atOdds c s x2 x3 S) s 13) + (Int32.ofInt 1))) R _
                refine u_getr rfl (z_st0 hs) rfl ?_
                refine u_st rfl (fun _ => rfl) ?_
                show u_P L xs m d m_X0_quarrelAll 96 [(4, .int (Int32.ofInt 1)), (0, .ref 76), (1, .ref (s + 1)), (2, .int x2), (3, .int x3)] [.int x2, .ref (s + 4), .int (Int32.ofInt 9), .int x2, .ref (s + 4)] (z_s (g_X3_atOdds c s x2 x3 S) s 13 (((g_X3_atOdds c s x2 x3 S) s 13) + (Int32.ofInt 1))) R _
                refine u_ialdE (v := (g_X3_atOdds c s x2 x3 S) (s + 3) x2.toInt.toNat) rfl (z_st3 hs) (z_sn (fun h => absurd h.1 (by omega))) (fun b81 b82 => ?_)
                have hD := hD b81 b82
                show u_P L xs m d m_X0_quarrelAll 97 [(4, .int (Int32.ofInt 1)), (0, .ref 76), (1, .ref (s + 1)), (2, .int x2), (3, .int x3)] [.int ((g_X3_atOdds c s x2 x3 S) (s + 3) x2.toInt.toNat), .int (Int32.ofInt 9), .int x2, .ref (s + 4)] (z_s (g_X3_atOdds c s x2 x3 S) s 13 (((g_X3_atOdds c s x2 x3 S) s 13) + (Int32.ofInt 1))) R _
                refine u_st rfl (fun _ => rfl) ?_
                refine u_st rfl (fun _ => rfl) ?_
                show u_P L xs m d m_X0_quarrelAll 99 [(4, .int (Int32.ofInt 1)), (0, .ref 76), (1, .ref (s + 1)), (2, .int x2), (3, .int x3)] [.int (((g_X3_atOdds c s x2 x3 S) (s + 3) x2.toInt.toNat) + (Int32.ofInt 1)), .int (Int32.ofInt 9), .int x2, .ref (s + 4)] (z_s (g_X3_atOdds c s x2 x3 S) s 13 (((g_X3_atOdds c s x2 x3 S) s 13) + (Int32.ofInt 1))) R _
                refine u_min rfl ?_
                show u_P L xs m d m_X0_quarrelAll 102 [(4, .int (Int32.ofInt 1)), (0, .ref 76), (1, .ref (s + 1)), (2, .int x2), (3, .int x3)] [.int (z_min (Int32.ofInt 9) (((g_X3_atOdds c s x2 x3 S) (s + 3) x2.toInt.toNat) + (Int32.ofInt 1))), .int x2, .ref (s + 4)] (z_s (g_X3_atOdds c s x2 x3 S) s 13 (((g_X3_atOdds c s x2 x3 S) s 13) + (Int32.ofInt 1))) R _
                refine u_iast rfl (z_st3 hs) (fun b91 b92 => ?_)
                have hD := hD b91 b92
                show u_P L xs m d m_X0_quarrelAll 103 [(4, .int (Int32.ofInt 1)), (0, .ref 76), (1, .ref (s + 1)), (2, .int x2), (3, .int x3)] [] (z_s (z_s (g_X3_atOdds c s x2 x3 S) s 13 (((g_X3_atOdds c s x2 x3 S) s 13) + (Int32.ofInt 1))) (s + 3) x2.toInt.toNat (z_min (Int32.ofInt 9) (((g_X3_atOdds c s x2 x3 S) (s + 3) x2.toInt.toNat) + (Int32.ofInt 1)))) R _
                refine u_st rfl (fun _ => rfl) ?_
                show u_P L xs m d m_X0_quarrelAll 104 [(4, .int (Int32.ofInt 1)), (0, .ref 76), (1, .ref (s + 1)), (2, .int x2), (3, .int x3)] [.ref (s + 1)] (z_s (z_s (g_X3_atOdds c s x2 x3 S) s 13 (((g_X3_atOdds c s x2 x3 S) s 13) + (Int32.ofInt 1))) (s + 3) x2.toInt.toNat (z_min (Int32.ofInt 9) (((g_X3_atOdds c s x2 x3 S) (s + 3) x2.toInt.toNat) + (Int32.ofInt 1)))) R _
                refine u_getr rfl (z_st0 hs) rfl ?_
                refine u_st rfl (fun _ => rfl) ?_
                refine u_st rfl (fun _ => rfl) ?_
                refine u_st rfl (fun _ => rfl) ?_
                show u_P L xs m d m_X0_quarrelAll 111 [(4, .int (Int32.ofInt 1)), (0, .ref 76), (1, .ref (s + 1)), (2, .int x2), (3, .int x3)] [.ref (s + 1), .int (Int32.ofInt 9), .int x3, .ref (s + 4)] (z_s (z_s (g_X3_atOdds c s x2 x3 S) s 13 (((g_X3_atOdds c s x2 x3 S) s 13) + (Int32.ofInt 1))) (s + 3) x2.toInt.toNat (z_min (Int32.ofInt 9) (((g_X3_atOdds c s x2 x3 S) (s + 3) x2.toInt.toNat) + (Int32.ofInt 1)))) R _
                refine u_getr rfl (z_st0 hs) rfl ?_
                refine u_st rfl (fun _ => rfl) ?_
                show u_P L xs m d m_X0_quarrelAll 115 [(4, .int (Int32.ofInt 1)), (0, .ref 76), (1, .ref (s + 1)), (2, .int x2), (3, .int x3)] [.int x3, .ref (s + 4), .int (Int32.ofInt 9), .int x3, .ref (s + 4)] (z_s (z_s (g_X3_atOdds c s x2 x3 S) s 13 (((g_X3_atOdds c s x2 x3 S) s 13) + (Int32.ofInt 1))) (s + 3) x2.toInt.toNat (z_min (Int32.ofInt 9) (((g_X3_atOdds c s x2 x3 S) (s + 3) x2.toInt.toNat) + (Int32.ofInt 1)))) R _
                refine u_ialdE (v := (z_s (z_s (g_X3_atOdds c s x2 x3 S) s 13 (((g_X3_atOdds c s x2 x3 S) s 13) + (Int32.ofInt 1))) (s + 3) x2.toInt.toNat (z_min (Int32.ofInt 9) (((g_X3_atOdds c s x2 x3 S) (s + 3) x2.toInt.toNat) + (Int32.ofInt 1)))) (s + 3) x3.toInt.toNat) rfl (z_st3 hs) rfl (fun b101 b102 => ?_)
                have hD := hD b101 b102
                show u_P L xs m d m_X0_quarrelAll 116 [(4, .int (Int32.ofInt 1)), (0, .ref 76), (1, .ref (s + 1)), (2, .int x2), (3, .int x3)] [.int ((z_s (z_s (g_X3_atOdds c s x2 x3 S) s 13 (((g_X3_atOdds c s x2 x3 S) s 13) + (Int32.ofInt 1))) (s + 3) x2.toInt.toNat (z_min (Int32.ofInt 9) (((g_X3_atOdds c s x2 x3 S) (s + 3) x2.toInt.toNat) + (Int32.ofInt 1)))) (s + 3) x3.toInt.toNat), .int (Int32.ofInt 9), .int x3, .ref (s + 4)] (z_s (z_s (g_X3_atOdds c s x2 x3 S) s 13 (((g_X3_atOdds c s x2 x3 S) s 13) + (Int32.ofInt 1))) (s + 3) x2.toInt.toNat (z_min (Int32.ofInt 9) (((g_X3_atOdds c s x2 x3 S) (s + 3) x2.toInt.toNat) + (Int32.ofInt 1)))) R _
                refine u_st rfl (fun _ => rfl) ?_
                refine u_st rfl (fun _ => rfl) ?_
                show u_P L xs m d m_X0_quarrelAll 118 [(4, .int (Int32.ofInt 1)), (0, .ref 76), (1, .ref (s + 1)), (2, .int x2), (3, .int x3)] [.int (((z_s (z_s (g_X3_atOdds c s x2 x3 S) s 13 (((g_X3_atOdds c s x2 x3 S) s 13) + (Int32.ofInt 1))) (s + 3) x2.toInt.toNat (z_min (Int32.ofInt 9) (((g_X3_atOdds c s x2 x3 S) (s + 3) x2.toInt.toNat) + (Int32.ofInt 1)))) (s + 3) x3.toInt.toNat) + (Int32.ofInt 1)), .int (Int32.ofInt 9), .int x3, .ref (s + 4)] (z_s (z_s (g_X3_atOdds c s x2 x3 S) s 13 (((g_X3_atOdds c s x2 x3 S) s 13) + (Int32.ofInt 1))) (s + 3) x2.toInt.toNat (z_min (Int32.ofInt 9) (((g_X3_atOdds c s x2 x3 S) (s + 3) x2.toInt.toNat) + (Int32.ofInt 1)))) R _
                refine u_min rfl ?_
                show u_P L xs m d m_X0_quarrelAll 121 [(4, .int (Int32.ofInt 1)), (0, .ref 76), (1, .ref (s + 1)), (2, .int x2), (3, .int x3)] [.int (z_min (Int32.ofInt 9) (((z_s (z_s (g_X3_atOdds c s x2 x3 S) s 13 (((g_X3_atOdds c s x2 x3 S) s 13) + (Int32.ofInt 1))) (s + 3) x2.toInt.toNat (z_min (Int32.ofInt 9) (((g_X3_atOdds c s x2 x3 S) (s + 3) x2.toInt.toNat) + (Int32.ofInt 1)))) (s + 3) x3.toInt.toNat) + (Int32.ofInt 1))), .int x3, .ref (s + 4)] (z_s (z_s (g_X3_atOdds c s x2 x3 S) s 13 (((g_X3_atOdds c s x2 x3 S) s 13) + (Int32.ofInt 1))) (s + 3) x2.toInt.toNat (z_min (Int32.ofInt 9) (((g_X3_atOdds c s x2 x3 S) (s + 3) x2.toInt.toNat) + (Int32.ofInt 1)))) R _
                refine u_iast rfl (z_st3 hs) (fun b111 b112 => ?_)
                have hD := hD b111 b112
                show u_P L xs m d m_X0_quarrelAll 122 [(4, .int (Int32.ofInt 1)), (0, .ref 76), (1, .ref (s + 1)), (2, .int x2), (3, .int x3)] [] (z_s (z_s (z_s (g_X3_atOdds c s x2 x3 S) s 13 (((g_X3_atOdds c s x2 x3 S) s 13) + (Int32.ofInt 1))) (s + 3) x2.toInt.toNat (z_min (Int32.ofInt 9) (((g_X3_atOdds c s x2 x3 S) (s + 3) x2.toInt.toNat) + (Int32.ofInt 1)))) (s + 3) x3.toInt.toNat (z_min (Int32.ofInt 9) (((z_s (z_s (g_X3_atOdds c s x2 x3 S) s 13 (((g_X3_atOdds c s x2 x3 S) s 13) + (Int32.ofInt 1))) (s + 3) x2.toInt.toNat (z_min (Int32.ofInt 9) (((g_X3_atOdds c s x2 x3 S) (s + 3) x2.toInt.toNat) + (Int32.ofInt 1)))) (s + 3) x3.toInt.toNat) + (Int32.ofInt 1)))) R _
                refine u_st rfl (fun _ => rfl) ?_
                refine u_st rfl (fun _ => rfl) ?_
                refine u_lc (b := [(0, .ref 76), (1, .ref (s + 1)), (2, .int x2), (3, .int (x3 + (Int32.ofInt 1))), (4, .int (Int32.ofInt 1))]) (show ([3, 4, 0, 1, 2] : List Nat).Nodup by decide) (show ([0, 1, 2, 3, 4] : List Nat).Nodup by decide) (fun i => match i with | 0 => rfl | 1 => rfl | 2 => rfl | 3 => rfl | 4 => rfl | _ + 5 => rfl) ?_
                exact (ih m hm).2.2.2.2 d (Int32.ofInt 1) x2 (x3 + (Int32.ofInt 1)) (z_s (z_s (z_s (g_X3_atOdds c s x2 x3 S) s 13 (((g_X3_atOdds c s x2 x3 S) s 13) + (Int32.ofInt 1))) (s + 3) x2.toInt.toNat (z_min (Int32.ofInt 9) (((g_X3_atOdds c s x2 x3 S) (s + 3) x2.toInt.toNat) + (Int32.ofInt 1)))) (s + 3) x3.toInt.toNat (z_min (Int32.ofInt 9) (((z_s (z_s (g_X3_atOdds c s x2 x3 S) s 13 (((g_X3_atOdds c s x2 x3 S) s 13) + (Int32.ofInt 1))) (s + 3) x2.toInt.toNat (z_min (Int32.ofInt 9) (((g_X3_atOdds c s x2 x3 S) (s + 3) x2.toInt.toNat) + (Int32.ofInt 1)))) (s + 3) x3.toInt.toNat) + (Int32.ofInt 1)))) hD
    · intro d j4 x2 x3 S hD
      have hD := k12 x2 x3 S hD
      unfold D_X0_quarrelAll_12 at hD
      show u_P L xs n d m_X0_quarrelAll 12 [(0, .ref 76), (1, .ref (s + 1)), (2, .int x2), (3, .int x3), (4, .int j4)] [] S R _
      refine u_st1 rfl (fun _ => rfl) (fun m hm => ?_)
      refine u_st rfl (fun _ => rfl) ?_
      show u_P L xs m d m_X0_quarrelAll 15 [(0, .ref 76), (1, .ref (s + 1)), (2, .int x2), (3, .int x3), (4, .int j4)] [.int (Int32.ofInt 12), .int x3] S R _
      refine u_ic_ge rfl (fun h1 => ?_) (fun h1 => ?_)
      · have hD := hD.1 h1
        show u_P L xs m d m_X0_quarrelAll 128 [(0, .ref 76), (1, .ref (s + 1)), (2, .int x2), (3, .int x3), (4, .int j4)] [] S R _
        refine u_st rfl (fun _ => rfl) ?_
        refine u_st rfl (fun _ => rfl) ?_
        refine u_lc (b := [(0, .ref 76), (1, .ref (s + 1)), (2, .int (x2 + (Int32.ofInt 1))), (3, .int x3), (4, .int j4)]) (show ([2, 0, 1, 3, 4] : List Nat).Nodup by decide) (show ([0, 1, 2, 3, 4] : List Nat).Nodup by decide) (fun i => match i with | 0 => rfl | 1 => rfl | 2 => rfl | 3 => rfl | 4 => rfl | _ + 5 => rfl) ?_
        exact (ih m hm).2.2.1 d x3 j4 (x2 + (Int32.ofInt 1)) S hD
      · have hD := hD.2 h1
        show u_P L xs m d m_X0_quarrelAll 18 [(0, .ref 76), (1, .ref (s + 1)), (2, .int x2), (3, .int x3), (4, .int j4)] [] S R _
        refine u_st rfl (fun _ => rfl) ?_
        refine u_st rfl (fun _ => rfl) ?_
        show u_P L xs m d m_X0_quarrelAll 20 [(0, .ref 76), (1, .ref (s + 1)), (2, .int x2), (3, .int x3), (4, .int j4)] [.int x2, .ref (s + 1)] S R _
        refine u_cv (rest := []) rfl (by decide) mt_X7_hasGust (z_st0 hs) rfl rfl rfl (Nat.le_of_ble_eq_true rfl) (Nat.le_of_ble_eq_true rfl) (Nat.le_of_ble_eq_true rfl) (fun d' => c_X7_hasGust L xs m d' s hs x2 S R) ?_
        rintro _ _ _ ⟨_, rfl, rfl, rfl, rfl⟩
        show u_P L xs m d m_X0_quarrelAll 23 [(0, .ref 76), (1, .ref (s + 1)), (2, .int x2), (3, .int x3), (4, .int j4)] [.int (f_X7_hasGust s x2 S)] S R _
        refine u_if_eq rfl (fun h2 => ?_) (fun h2 => ?_)
        · have hD := hD.1 h2
          show u_P L xs m d m_X0_quarrelAll 53 [(0, .ref 76), (1, .ref (s + 1)), (2, .int x2), (3, .int x3), (4, .int j4)] [] S R _
          refine u_st rfl (fun _ => rfl) ?_
          refine u_st rfl (fun _ => rfl) ?_
          refine u_st rfl (fun _ => rfl) ?_
          show u_P L xs m d m_X0_quarrelAll 58 [(4, .int (Int32.ofInt 0)), (0, .ref 76), (1, .ref (s + 1)), (2, .int x2), (3, .int x3)] [.int (Int32.ofInt 0)] S R _
          refine u_st rfl (fun _ => rfl) ?_
          refine u_st rfl (fun _ => rfl) ?_
          refine u_st rfl (fun _ => rfl) ?_
          refine u_lc (b := [(0, .ref 76), (1, .ref (s + 1)), (2, .int x2), (3, .int (x3 + (Int32.ofInt 1))), (4, .int (Int32.ofInt 0))]) (show ([3, 4, 0, 1, 2] : List Nat).Nodup by decide) (show ([0, 1, 2, 3, 4] : List Nat).Nodup by decide) (fun i => match i with | 0 => rfl | 1 => rfl | 2 => rfl | 3 => rfl | 4 => rfl | _ + 5 => rfl) ?_
          exact (ih m hm).2.2.2.2 d (Int32.ofInt 0) x2 (x3 + (Int32.ofInt 1)) S hD
        · have hD := hD.2 h2
          show u_P L xs m d m_X0_quarrelAll 26 [(0, .ref 76), (1, .ref (s + 1)), (2, .int x2), (3, .int x3), (4, .int j4)] [] S R _
          refine u_st rfl (fun _ => rfl) ?_
          refine u_st rfl (fun _ => rfl) ?_
          show u_P L xs m d m_X0_quarrelAll 28 [(0, .ref 76), (1, .ref (s + 1)), (2, .int x2), (3, .int x3), (4, .int j4)] [.int x3, .ref (s + 1)] S R _
          refine u_cv (rest := []) rfl (by decide) mt_X7_hasGust (z_st0 hs) rfl rfl rfl (Nat.le_of_ble_eq_true rfl) (Nat.le_of_ble_eq_true rfl) (Nat.le_of_ble_eq_true rfl) (fun d' => c_X7_hasGust L xs m d' s hs x3 S R) ?_
          rintro _ _ _ ⟨_, rfl, rfl, rfl, rfl⟩
          show u_P L xs m d m_X0_quarrelAll 31 [(0, .ref 76), (1, .ref (s + 1)), (2, .int x2), (3, .int x3), (4, .int j4)] [.int (f_X7_hasGust s x3 S)] S R _
          refine u_if_eq rfl (fun h3 => ?_) (fun h3 => ?_)
          · have hD := hD.1 h3
            show u_P L xs m d m_X0_quarrelAll 53 [(0, .ref 76), (1, .ref (s + 1)), (2, .int x2), (3, .int x3), (4, .int j4)] [] S R _
            refine u_st rfl (fun _ => rfl) ?_
            refine u_st rfl (fun _ => rfl) ?_
            refine u_st rfl (fun _ => rfl) ?_
            show u_P L xs m d m_X0_quarrelAll 58 [(4, .int (Int32.ofInt 0)), (0, .ref 76), (1, .ref (s + 1)), (2, .int x2), (3, .int x3)] [.int (Int32.ofInt 0)] S R _
            refine u_st rfl (fun _ => rfl) ?_
            refine u_st rfl (fun _ => rfl) ?_
            refine u_st rfl (fun _ => rfl) ?_
            refine u_lc (b := [(0, .ref 76), (1, .ref (s + 1)), (2, .int x2), (3, .int (x3 + (Int32.ofInt 1))), (4, .int (Int32.ofInt 0))]) (show ([3, 4, 0, 1, 2] : List Nat).Nodup by decide) (show ([0, 1, 2, 3, 4] : List Nat).Nodup by decide) (fun i => match i with | 0 => rfl | 1 => rfl | 2 => rfl | 3 => rfl | 4 => rfl | _ + 5 => rfl) ?_
            exact (ih m hm).2.2.2.2 d (Int32.ofInt 0) x2 (x3 + (Int32.ofInt 1)) S hD
          · have hD := hD.2 h3
            show u_P L xs m d m_X0_quarrelAll 34 [(0, .ref 76), (1, .ref (s + 1)), (2, .int x2), (3, .int x3), (4, .int j4)] [] S R _
            refine u_st rfl (fun _ => rfl) ?_
            show u_P L xs m d m_X0_quarrelAll 35 [(0, .ref 76), (1, .ref (s + 1)), (2, .int x2), (3, .int x3), (4, .int j4)] [.ref (s + 1)] S R _
            refine u_getr rfl (z_st0 hs) rfl ?_
            refine u_st rfl (fun _ => rfl) ?_
            show u_P L xs m d m_X0_quarrelAll 39 [(0, .ref 76), (1, .ref (s + 1)), (2, .int x2), (3, .int x3), (4, .int j4)] [.int x2, .ref (s + 5)] S R _
            refine u_ialdE (v := S (s + 4) x2.toInt.toNat) rfl (z_st4 hs) rfl (fun b41 b42 => ?_)
            have hD := hD b41 b42
            show u_P L xs m d m_X0_quarrelAll 40 [(0, .ref 76), (1, .ref (s + 1)), (2, .int x2), (3, .int x3), (4, .int j4)] [.int (S (s + 4) x2.toInt.toNat)] S R _
            refine u_st rfl (fun _ => rfl) ?_
            show u_P L xs m d m_X0_quarrelAll 41 [(0, .ref 76), (1, .ref (s + 1)), (2, .int x2), (3, .int x3), (4, .int j4)] [.ref (s + 1), .int (S (s + 4) x2.toInt.toNat)] S R _
            refine u_getr rfl (z_st0 hs) rfl ?_
            refine u_st rfl (fun _ => rfl) ?_
            show u_P L xs m d m_X0_quarrelAll 45 [(0, .ref 76), (1, .ref (s + 1)), (2, .int x2), (3, .int x3), (4, .int j4)] [.int x3, .ref (s + 5), .int (S (s + 4) x2.toInt.toNat)] S R _
            refine u_ialdE (v := S (s + 4) x3.toInt.toNat) rfl (z_st4 hs) rfl (fun b51 b52 => ?_)
            have hD := hD b51 b52
            show u_P L xs m d m_X0_quarrelAll 46 [(0, .ref 76), (1, .ref (s + 1)), (2, .int x2), (3, .int x3), (4, .int j4)] [.int (S (s + 4) x3.toInt.toNat), .int (S (s + 4) x2.toInt.toNat)] S R _
            refine u_ic_ne rfl (fun h6 => ?_) (fun h6 => ?_)
            · have hD := hD.1 h6
              show u_P L xs m d m_X0_quarrelAll 53 [(0, .ref 76), (1, .ref (s + 1)), (2, .int x2), (3, .int x3), (4, .int j4)] [] S R _
              refine u_st rfl (fun _ => rfl) ?_
              refine u_st rfl (fun _ => rfl) ?_
              refine u_st rfl (fun _ => rfl) ?_
              show u_P L xs m d m_X0_quarrelAll 58 [(4, .int (Int32.ofInt 0)), (0, .ref 76), (1, .ref (s + 1)), (2, .int x2), (3, .int x3)] [.int (Int32.ofInt 0)] S R _
              refine u_st rfl (fun _ => rfl) ?_
              refine u_st rfl (fun _ => rfl) ?_
              refine u_st rfl (fun _ => rfl) ?_
              refine u_lc (b := [(0, .ref 76), (1, .ref (s + 1)), (2, .int x2), (3, .int (x3 + (Int32.ofInt 1))), (4, .int (Int32.ofInt 0))]) (show ([3, 4, 0, 1, 2] : List Nat).Nodup by decide) (show ([0, 1, 2, 3, 4] : List Nat).Nodup by decide) (fun i => match i with | 0 => rfl | 1 => rfl | 2 => rfl | 3 => rfl | 4 => rfl | _ + 5 => rfl) ?_
              exact (ih m hm).2.2.2.2 d (Int32.ofInt 0) x2 (x3 + (Int32.ofInt 1)) S hD
            · have hD := hD.2 h6
              show u_P L xs m d m_X0_quarrelAll 49 [(0, .ref 76), (1, .ref (s + 1)), (2, .int x2), (3, .int x3), (4, .int j4)] [] S R _
              refine u_st rfl (fun _ => rfl) ?_
              refine u_st rfl (fun _ => rfl) ?_
              refine u_st rfl (fun _ => rfl) ?_
              refine u_st rfl (fun _ => rfl) ?_
              show u_P L xs m d m_X0_quarrelAll 58 [(4, .int (Int32.ofInt 1)), (0, .ref 76), (1, .ref (s + 1)), (2, .int x2), (3, .int x3)] [.int (Int32.ofInt 1)] S R _
              refine u_st rfl (fun _ => rfl) ?_
              refine u_st rfl (fun _ => rfl) ?_
              show u_P L xs m d m_X0_quarrelAll 62 [(4, .int (Int32.ofInt 1)), (0, .ref 76), (1, .ref (s + 1)), (2, .int x2), (3, .int x3)] [.ref 76] S R _
              refine u_getr rfl rfl rfl ?_
              refine u_st rfl (fun _ => rfl) ?_
              refine u_st rfl (fun _ => rfl) ?_
              refine u_st rfl (fun _ => rfl) ?_
              show u_P L xs m d m_X0_quarrelAll 68 [(4, .int (Int32.ofInt 1)), (0, .ref 76), (1, .ref (s + 1)), (2, .int x2), (3, .int x3)] [.int x3, .int x2, .ref (s + 1), .ref 51] S R _
              refine u_cv (rest := []) rfl (by decide) mt_X3_atOdds rfl rfl rfl rfl (Nat.le_of_ble_eq_true rfl) (Nat.le_of_ble_eq_true rfl) (Nat.le_of_ble_eq_true rfl) (fun d' => c_X3_atOdds L xs m d' hW hL hc s hs x2 x3 S) ?_
              rintro _ _ _ ⟨_, rfl, rfl, rfl, rfl⟩
              show u_P L xs m d m_X0_quarrelAll 71 [(4, .int (Int32.ofInt 1)), (0, .ref 76), (1, .ref (s + 1)), (2, .int x2), (3, .int x3)] [.int (f_X3_atOdds c s x2 x3 S)] (g_X3_atOdds c s x2 x3 S) R _
              refine u_if_eq rfl (fun h7 => ?_) (fun h7 => ?_)
              · have hD := hD.1 h7
                show u_P L xs m d m_X0_quarrelAll 122 [(4, .int (Int32.ofInt 1)), (0, .ref 76), (1, .ref (s + 1)), (2, .int x2), (3, .int x3)] [] (g_X3_atOdds c s x2 x3 S) R _
                refine u_st rfl (fun _ => rfl) ?_
                refine u_st rfl (fun _ => rfl) ?_
                refine u_lc (b := [(0, .ref 76), (1, .ref (s + 1)), (2, .int x2), (3, .int (x3 + (Int32.ofInt 1))), (4, .int (Int32.ofInt 1))]) (show ([3, 4, 0, 1, 2] : List Nat).Nodup by decide) (show ([0, 1, 2, 3, 4] : List Nat).Nodup by decide) (fun i => match i with | 0 => rfl | 1 => rfl | 2 => rfl | 3 => rfl | 4 => rfl | _ + 5 => rfl) ?_
                exact (ih m hm).2.2.2.2 d (Int32.ofInt 1) x2 (x3 + (Int32.ofInt 1)) (g_X3_atOdds c s x2 x3 S) hD
              · have hD := hD.2 h7
                show u_P L xs m d m_X0_quarrelAll 74 [(4, .int (Int32.ofInt 1)), (0, .ref 76), (1, .ref (s + 1)), (2, .int x2), (3, .int x3)] [] (g_X3_atOdds c s x2 x3 S) R _
                refine u_st rfl (fun _ => rfl) ?_
                refine u_st rfl (fun _ => rfl) ?_
                show u_P L xs m d m_X0_quarrelAll 76 [(4, .int (Int32.ofInt 1)), (0, .ref 76), (1, .ref (s + 1)), (2, .int x2), (3, .int x3)] [.ref (s + 1), .ref (s + 1)] (g_X3_atOdds c s x2 x3 S) R _
                refine u_getE (v := (g_X3_atOdds c s x2 x3 S) s 13) rfl (z_st0 hs) rfl rfl ?_
                refine u_st rfl (fun _ => rfl) ?_
                refine u_st rfl (fun _ => rfl) ?_
                show u_P L xs m d m_X0_quarrelAll 81 [(4, .int (Int32.ofInt 1)), (0, .ref 76), (1, .ref (s + 1)), (2, .int x2), (3, .int x3)] [.int (((g_X3_atOdds c s x2 x3 S) s 13) + (Int32.ofInt 1)), .ref (s + 1)] (g_X3_atOdds c s x2 x3 S) R _
                refine u_put rfl (z_st0 hs) rfl ?_
                refine u_st rfl (fun _ => rfl) ?_
                show u_P L xs m d m_X0_quarrelAll 85 [(4, .int (Int32.ofInt 1)), (0, .ref 76), (1, .ref (s + 1)), (2, .int x2), (3, .int x3)] [.ref (s + 1)] (z_s (g_X3_atOdds c s x2 x3 S) s 13 (((g_X3_atOdds c s x2 x3 S) s 13) + (Int32.ofInt 1))) R _
                refine u_getr rfl (z_st0 hs) rfl ?_
                refine u_st rfl (fun _ => rfl) ?_
                refine u_st rfl (fun _ => rfl) ?_
                refine u_st rfl (fun _ => rfl) ?_
                show u_P L xs m d m_X0_quarrelAll 92 [(4, .int (Int32.ofInt 1)), (0, .ref 76), (1, .ref (s + 1)), (2, .int x2), (3, .int x3)] [.ref (s + 1), .int (Int32.ofInt 9), .int x2, .ref (s + 4)] (z_s (g_X3_atOdds c s x2 x3 S) s 13 (((g_X3_atOdds c s x2 x3 S) s 13) + (Int32.ofInt 1))) R _
                refine u_getr rfl (z_st0 hs) rfl ?_
                refine u_st rfl (fun _ => rfl) ?_
                show u_P L xs m d m_X0_quarrelAll 96 [(4, .int (Int32.ofInt 1)), (0, .ref 76), (1, .ref (s + 1)), (2, .int x2), (3, .int x3)] [.int x2, .ref (s + 4), .int (Int32.ofInt 9), .int x2, .ref (s + 4)] (z_s (g_X3_atOdds c s x2 x3 S) s 13 (((g_X3_atOdds c s x2 x3 S) s 13) + (Int32.ofInt 1))) R _
                refine u_ialdE (v := (g_X3_atOdds c s x2 x3 S) (s + 3) x2.toInt.toNat) rfl (z_st3 hs) (z_sn (fun h => absurd h.1 (by omega))) (fun b81 b82 => ?_)
                have hD := hD b81 b82
                show u_P L xs m d m_X0_quarrelAll 97 [(4, .int (Int32.ofInt 1)), (0, .ref 76), (1, .ref (s + 1)), (2, .int x2), (3, .int x3)] [.int ((g_X3_atOdds c s x2 x3 S) (s + 3) x2.toInt.toNat), .int (Int32.ofInt 9), .int x2, .ref (s + 4)] (z_s (g_X3_atOdds c s x2 x3 S) s 13 (((g_X3_atOdds c s x2 x3 S) s 13) + (Int32.ofInt 1))) R _
                refine u_st rfl (fun _ => rfl) ?_
                refine u_st rfl (fun _ => rfl) ?_
                show u_P L xs m d m_X0_quarrelAll 99 [(4, .int (Int32.ofInt 1)), (0, .ref 76), (1, .ref (s + 1)), (2, .int x2), (3, .int x3)] [.int (((g_X3_atOdds c s x2 x3 S) (s + 3) x2.toInt.toNat) + (Int32.ofInt 1)), .int (Int32.ofInt 9), .int x2, .ref (s + 4)] (z_s (g_X3_atOdds c s x2 x3 S) s 13 (((g_X3_atOdds c s x2 x3 S) s 13) + (Int32.ofInt 1))) R _
                refine u_min rfl ?_
                show u_P L xs m d m_X0_quarrelAll 102 [(4, .int (Int32.ofInt 1)), (0, .ref 76), (1, .ref (s + 1)), (2, .int x2), (3, .int x3)] [.int (z_min (Int32.ofInt 9) (((g_X3_atOdds c s x2 x3 S) (s + 3) x2.toInt.toNat) + (Int32.ofInt 1))), .int x2, .ref (s + 4)] (z_s (g_X3_atOdds c s x2 x3 S) s 13 (((g_X3_atOdds c s x2 x3 S) s 13) + (Int32.ofInt 1))) R _
                refine u_iast rfl (z_st3 hs) (fun b91 b92 => ?_)
                have hD := hD b91 b92
                show u_P L xs m d m_X0_quarrelAll 103 [(4, .int (Int32.ofInt 1)), (0, .ref 76), (1, .ref (s + 1)), (2, .int x2), (3, .int x3)] [] (z_s (z_s (g_X3_atOdds c s x2 x3 S) s 13 (((g_X3_atOdds c s x2 x3 S) s 13) + (Int32.ofInt 1))) (s + 3) x2.toInt.toNat (z_min (Int32.ofInt 9) (((g_X3_atOdds c s x2 x3 S) (s + 3) x2.toInt.toNat) + (Int32.ofInt 1)))) R _
                refine u_st rfl (fun _ => rfl) ?_
                show u_P L xs m d m_X0_quarrelAll 104 [(4, .int (Int32.ofInt 1)), (0, .ref 76), (1, .ref (s + 1)), (2, .int x2), (3, .int x3)] [.ref (s + 1)] (z_s (z_s (g_X3_atOdds c s x2 x3 S) s 13 (((g_X3_atOdds c s x2 x3 S) s 13) + (Int32.ofInt 1))) (s + 3) x2.toInt.toNat (z_min (Int32.ofInt 9) (((g_X3_atOdds c s x2 x3 S) (s + 3) x2.toInt.toNat) + (Int32.ofInt 1)))) R _
                refine u_getr rfl (z_st0 hs) rfl ?_
                refine u_st rfl (fun _ => rfl) ?_
                refine u_st rfl (fun _ => rfl) ?_
                refine u_st rfl (fun _ => rfl) ?_
                show u_P L xs m d m_X0_quarrelAll 111 [(4, .int (Int32.ofInt 1)), (0, .ref 76), (1, .ref (s + 1)), (2, .int x2), (3, .int x3)] [.ref (s + 1), .int (Int32.ofInt 9), .int x3, .ref (s + 4)] (z_s (z_s (g_X3_atOdds c s x2 x3 S) s 13 (((g_X3_atOdds c s x2 x3 S) s 13) + (Int32.ofInt 1))) (s + 3) x2.toInt.toNat (z_min (Int32.ofInt 9) (((g_X3_atOdds c s x2 x3 S) (s + 3) x2.toInt.toNat) + (Int32.ofInt 1)))) R _
                refine u_getr rfl (z_st0 hs) rfl ?_
                refine u_st rfl (fun _ => rfl) ?_
                show u_P L xs m d m_X0_quarrelAll 115 [(4, .int (Int32.ofInt 1)), (0, .ref 76), (1, .ref (s + 1)), (2, .int x2), (3, .int x3)] [.int x3, .ref (s + 4), .int (Int32.ofInt 9), .int x3, .ref (s + 4)] (z_s (z_s (g_X3_atOdds c s x2 x3 S) s 13 (((g_X3_atOdds c s x2 x3 S) s 13) + (Int32.ofInt 1))) (s + 3) x2.toInt.toNat (z_min (Int32.ofInt 9) (((g_X3_atOdds c s x2 x3 S) (s + 3) x2.toInt.toNat) + (Int32.ofInt 1)))) R _
                refine u_ialdE (v := (z_s (z_s (g_X3_atOdds c s x2 x3 S) s 13 (((g_X3_atOdds c s x2 x3 S) s 13) + (Int32.ofInt 1))) (s + 3) x2.toInt.toNat (z_min (Int32.ofInt 9) (((g_X3_atOdds c s x2 x3 S) (s + 3) x2.toInt.toNat) + (Int32.ofInt 1)))) (s + 3) x3.toInt.toNat) rfl (z_st3 hs) rfl (fun b101 b102 => ?_)
                have hD := hD b101 b102
                show u_P L xs m d m_X0_quarrelAll 116 [(4, .int (Int32.ofInt 1)), (0, .ref 76), (1, .ref (s + 1)), (2, .int x2), (3, .int x3)] [.int ((z_s (z_s (g_X3_atOdds c s x2 x3 S) s 13 (((g_X3_atOdds c s x2 x3 S) s 13) + (Int32.ofInt 1))) (s + 3) x2.toInt.toNat (z_min (Int32.ofInt 9) (((g_X3_atOdds c s x2 x3 S) (s + 3) x2.toInt.toNat) + (Int32.ofInt 1)))) (s + 3) x3.toInt.toNat), .int (Int32.ofInt 9), .int x3, .ref (s + 4)] (z_s (z_s (g_X3_atOdds c s x2 x3 S) s 13 (((g_X3_atOdds c s x2 x3 S) s 13) + (Int32.ofInt 1))) (s + 3) x2.toInt.toNat (z_min (Int32.ofInt 9) (((g_X3_atOdds c s x2 x3 S) (s + 3) x2.toInt.toNat) + (Int32.ofInt 1)))) R _
                refine u_st rfl (fun _ => rfl) ?_
                refine u_st rfl (fun _ => rfl) ?_
                show u_P L xs m d m_X0_quarrelAll 118 [(4, .int (Int32.ofInt 1)), (0, .ref 76), (1, .ref (s + 1)), (2, .int x2), (3, .int x3)] [.int (((z_s (z_s (g_X3_atOdds c s x2 x3 S) s 13 (((g_X3_atOdds c s x2 x3 S) s 13) + (Int32.ofInt 1))) (s + 3) x2.toInt.toNat (z_min (Int32.ofInt 9) (((g_X3_atOdds c s x2 x3 S) (s + 3) x2.toInt.toNat) + (Int32.ofInt 1)))) (s + 3) x3.toInt.toNat) + (Int32.ofInt 1)), .int (Int32.ofInt 9), .int x3, .ref (s + 4)] (z_s (z_s (g_X3_atOdds c s x2 x3 S) s 13 (((g_X3_atOdds c s x2 x3 S) s 13) + (Int32.ofInt 1))) (s + 3) x2.toInt.toNat (z_min (Int32.ofInt 9) (((g_X3_atOdds c s x2 x3 S) (s + 3) x2.toInt.toNat) + (Int32.ofInt 1)))) R _
                refine u_min rfl ?_
                show u_P L xs m d m_X0_quarrelAll 121 [(4, .int (Int32.ofInt 1)), (0, .ref 76), (1, .ref (s + 1)), (2, .int x2), (3, .int x3)] [.int (z_min (Int32.ofInt 9) (((z_s (z_s (g_X3_atOdds c s x2 x3 S) s 13 (((g_X3_atOdds c s x2 x3 S) s 13) + (Int32.ofInt 1))) (s + 3) x2.toInt.toNat (z_min (Int32.ofInt 9) (((g_X3_atOdds c s x2 x3 S) (s + 3) x2.toInt.toNat) + (Int32.ofInt 1)))) (s + 3) x3.toInt.toNat) + (Int32.ofInt 1))), .int x3, .ref (s + 4)] (z_s (z_s (g_X3_atOdds c s x2 x3 S) s 13 (((g_X3_atOdds c s x2 x3 S) s 13) + (Int32.ofInt 1))) (s + 3) x2.toInt.toNat (z_min (Int32.ofInt 9) (((g_X3_atOdds c s x2 x3 S) (s + 3) x2.toInt.toNat) + (Int32.ofInt 1)))) R _
                refine u_iast rfl (z_st3 hs) (fun b111 b112 => ?_)
                have hD := hD b111 b112
                show u_P L xs m d m_X0_quarrelAll 122 [(4, .int (Int32.ofInt 1)), (0, .ref 76), (1, .ref (s + 1)), (2, .int x2), (3, .int x3)] [] (z_s (z_s (z_s (g_X3_atOdds c s x2 x3 S) s 13 (((g_X3_atOdds c s x2 x3 S) s 13) + (Int32.ofInt 1))) (s + 3) x2.toInt.toNat (z_min (Int32.ofInt 9) (((g_X3_atOdds c s x2 x3 S) (s + 3) x2.toInt.toNat) + (Int32.ofInt 1)))) (s + 3) x3.toInt.toNat (z_min (Int32.ofInt 9) (((z_s (z_s (g_X3_atOdds c s x2 x3 S) s 13 (((g_X3_atOdds c s x2 x3 S) s 13) + (Int32.ofInt 1))) (s + 3) x2.toInt.toNat (z_min (Int32.ofInt 9) (((g_X3_atOdds c s x2 x3 S) (s + 3) x2.toInt.toNat) + (Int32.ofInt 1)))) (s + 3) x3.toInt.toNat) + (Int32.ofInt 1)))) R _
                refine u_st rfl (fun _ => rfl) ?_
                refine u_st rfl (fun _ => rfl) ?_
                refine u_lc (b := [(0, .ref 76), (1, .ref (s + 1)), (2, .int x2), (3, .int (x3 + (Int32.ofInt 1))), (4, .int (Int32.ofInt 1))]) (show ([3, 4, 0, 1, 2] : List Nat).Nodup by decide) (show ([0, 1, 2, 3, 4] : List Nat).Nodup by decide) (fun i => match i with | 0 => rfl | 1 => rfl | 2 => rfl | 3 => rfl | 4 => rfl | _ + 5 => rfl) ?_
                exact (ih m hm).2.2.2.2 d (Int32.ofInt 1) x2 (x3 + (Int32.ofInt 1)) (z_s (z_s (z_s (g_X3_atOdds c s x2 x3 S) s 13 (((g_X3_atOdds c s x2 x3 S) s 13) + (Int32.ofInt 1))) (s + 3) x2.toInt.toNat (z_min (Int32.ofInt 9) (((g_X3_atOdds c s x2 x3 S) (s + 3) x2.toInt.toNat) + (Int32.ofInt 1)))) (s + 3) x3.toInt.toNat (z_min (Int32.ofInt 9) (((z_s (z_s (g_X3_atOdds c s x2 x3 S) s 13 (((g_X3_atOdds c s x2 x3 S) s 13) + (Int32.ofInt 1))) (s + 3) x2.toInt.toNat (z_min (Int32.ofInt 9) (((g_X3_atOdds c s x2 x3 S) (s + 3) x2.toInt.toNat) + (Int32.ofInt 1)))) (s + 3) x3.toInt.toNat) + (Int32.ofInt 1)))) hD
set_option maxRecDepth 4000 in
theorem w_X0_quarrelAll (L : Nat) (xs : Nat → Int32) {R : v_Rf} (hW : z_W R) {c : Nat} (hL : R 50 2 = some (c + 1)) (hc : z_cd c) (s : Nat) (hs : z_st s) (H2 : Int32 → v_Sf → Prop) (H12 : Int32 → Int32 → v_Sf → Prop) (K : v_Sf → Prop) (k2 : ∀ (x2 : Int32) (S : v_Sf), H2 x2 S → D_X0_quarrelAll_2 c s H2 H12 K x2 S) (k12 : ∀ (x2 : Int32) (x3 : Int32) (S : v_Sf), H12 x2 x3 S → D_X0_quarrelAll_12 c s H2 H12 K x2 x3 S) (n d : Nat) (S : v_Sf) (hD : D_X0_quarrelAll c s H2 H12 K S) : u_P L xs n d m_X0_quarrelAll 0 (lv_args 0 [.ref 76, .ref (s + 1)]) [] S R (z_V R K) := by
  unfold D_X0_quarrelAll at hD
  show u_P L xs n d m_X0_quarrelAll 0 [(0, .ref 76), (1, .ref (s + 1))] [] S R _
  refine u_st rfl (fun _ => rfl) ?_
  refine u_st rfl (fun _ => rfl) ?_
  refine u_lc (b := [(0, .ref 76), (1, .ref (s + 1)), (2, .int (Int32.ofInt 0))]) (show ([2, 0, 1] : List Nat).Nodup by decide) (show ([0, 1, 2] : List Nat).Nodup by decide) (fun i => match i with | 0 => rfl | 1 => rfl | 2 => rfl | _ + 3 => rfl) ?_
  exact (hd_X0_quarrelAll L xs hW hL hc s hs H2 H12 K k2 k12 n).1 d (Int32.ofInt 0) S hD
noncomputable def r_X0_quarrelAll_12 (c : Nat) (s : Nat) (κ2 : v_Sf → v_Sf) (k2 : Nat) : Nat → Nat → v_Sf → v_Sf
  | 0, k12, S => κ2 S
  | r + 1, k12, S => (if (f_X7_hasGust s (z_i k2) S) = 0 then r_X0_quarrelAll_12 c s κ2 k2 r (k12 + 1) S else (if (f_X7_hasGust s (z_i k12) S) = 0 then r_X0_quarrelAll_12 c s κ2 k2 r (k12 + 1) S else (if ¬ (S (s + 4) (z_i k2).toInt.toNat) = (S (s + 4) (z_i k12).toInt.toNat) then r_X0_quarrelAll_12 c s κ2 k2 r (k12 + 1) S else (if (f_X3_atOdds c s (z_i k2) (z_i k12) S) = 0 then r_X0_quarrelAll_12 c s κ2 k2 r (k12 + 1) (g_X3_atOdds c s (z_i k2) (z_i k12) S) else r_X0_quarrelAll_12 c s κ2 k2 r (k12 + 1) (z_s (z_s (z_s (g_X3_atOdds c s (z_i k2) (z_i k12) S) s 13 (((g_X3_atOdds c s (z_i k2) (z_i k12) S) s 13) + (Int32.ofInt 1))) (s + 3) (z_i k2).toInt.toNat (z_min (Int32.ofInt 9) (((g_X3_atOdds c s (z_i k2) (z_i k12) S) (s + 3) (z_i k2).toInt.toNat) + (Int32.ofInt 1)))) (s + 3) (z_i k12).toInt.toNat (z_min (Int32.ofInt 9) (((z_s (z_s (g_X3_atOdds c s (z_i k2) (z_i k12) S) s 13 (((g_X3_atOdds c s (z_i k2) (z_i k12) S) s 13) + (Int32.ofInt 1))) (s + 3) (z_i k2).toInt.toNat (z_min (Int32.ofInt 9) (((g_X3_atOdds c s (z_i k2) (z_i k12) S) (s + 3) (z_i k2).toInt.toNat) + (Int32.ofInt 1)))) (s + 3) (z_i k12).toInt.toNat) + (Int32.ofInt 1))))))))
noncomputable def r_X0_quarrelAll_2 (c : Nat) (s : Nat) : Nat → Nat → v_Sf → v_Sf
  | 0, k2, S => S
  | r + 1, k2, S => r_X0_quarrelAll_12 c s (fun S => r_X0_quarrelAll_2 c s r (k2 + 1) S) k2 (12 - (k2 + 1)) (k2 + 1) S
noncomputable def F_X0_quarrelAll (c : Nat) (s : Nat) (S : v_Sf) : v_Sf := r_X0_quarrelAll_2 c s (12 - 0) 0 S
noncomputable def g_X0_quarrelAll (c : Nat) (s : Nat) (S : v_Sf) : v_Sf := F_X0_quarrelAll c s S
theorem c_X0_quarrelAll (L : Nat) (xs : Nat → Int32) (n d : Nat) {R : v_Rf} (hW : z_W R) {c : Nat} (hL : R 50 2 = some (c + 1)) (hc : z_cd c) (s : Nat) (hs : z_st s) (S : v_Sf) : u_P L xs n d m_X0_quarrelAll 0 (lv_args 0 [.ref 76, .ref (s + 1)]) [] S R (z_V R (fun S1 => g_X0_quarrelAll c s S = S1)) := by
  refine w_X0_quarrelAll L xs hW hL hc s hs (fun y2 T => ∃ (k2 : Nat), k2 ≤ 12 ∧ z_i k2 = y2 ∧ r_X0_quarrelAll_2 c s (12 - k2) k2 T = F_X0_quarrelAll c s S) (fun y2 y3 T => ∃ (k2 k12 : Nat), k12 ≤ 12 ∧ z_i k12 = y3 ∧ k2 < 12 ∧ z_i k2 = y2 ∧ r_X0_quarrelAll_12 c s (fun V => r_X0_quarrelAll_2 c s (12 - (k2 + 1)) (k2 + 1) V) k2 (12 - k12) k12 T = F_X0_quarrelAll c s S) (fun S1 => g_X0_quarrelAll c s S = S1) ?_ ?_ n d S ?_
  · rintro _ S1 ⟨k2, hkk, rfl, e⟩
    unfold D_X0_quarrelAll_2
    rcases Nat.lt_or_ge k2 (12) with hk | hk
    · rw [show 12 - k2 = (12 - (k2 + 1)) + 1 by omega, r_X0_quarrelAll_2] at e
      refine ⟨fun q1 => ?_, fun q1 => ?_⟩
      · exact absurd hk (Nat.not_lt.mpr (z_leB2 (B := 12) q1 (by decide) (by omega)))
      · exact ⟨k2, (k2 + 1), by omega, (z_i1 k2).symm, by omega, rfl, e⟩
    · rw [show 12 - k2 = 0 by omega, r_X0_quarrelAll_2] at e
      refine ⟨fun q2 => ?_, fun q2 => ?_⟩
      · exact e.symm
      · exact absurd hk (Nat.not_le.mpr (z_ltB2 (B := 12) q2 (by decide) (by omega)))
  · rintro _ _ S1 ⟨k2, k12, hkk, rfl, hk2, rfl, e⟩
    unfold D_X0_quarrelAll_12
    rcases Nat.lt_or_ge k12 (12) with hk | hk
    · rw [show 12 - k12 = (12 - (k12 + 1)) + 1 by omega, r_X0_quarrelAll_12] at e
      refine ⟨fun q3 => ?_, fun q3 => ?_⟩
      · exact absurd hk (Nat.not_lt.mpr (z_leB2 (B := 12) q3 (by decide) (by omega)))
      · refine ⟨fun q4 => ?_, fun q4 => ?_⟩
        · rw [if_pos q4] at e
          exact ⟨k2, (k12 + 1), by omega, (z_i1 k12).symm, by omega, rfl, e⟩
        · refine ⟨fun q5 => ?_, fun q5 => ?_⟩
          · rw [if_neg q4, if_pos q5] at e
            exact ⟨k2, (k12 + 1), by omega, (z_i1 k12).symm, by omega, rfl, e⟩
          · intro _ _
            intro _ _
            refine ⟨fun q6 => ?_, fun q6 => ?_⟩
            · rw [if_neg q4, if_neg q5, if_pos q6] at e
              exact ⟨k2, (k12 + 1), by omega, (z_i1 k12).symm, by omega, rfl, e⟩
            · refine ⟨fun q7 => ?_, fun q7 => ?_⟩
              · rw [if_neg q4, if_neg q5, if_neg q6, if_pos q7] at e
                exact ⟨k2, (k12 + 1), by omega, (z_i1 k12).symm, by omega, rfl, e⟩
              · intro _ _
                intro _ _
                intro _ _
                intro _ _
                rw [if_neg q4, if_neg q5, if_neg q6, if_neg q7] at e
                exact ⟨k2, (k12 + 1), by omega, (z_i1 k12).symm, by omega, rfl, e⟩
    · rw [show 12 - k12 = 0 by omega, r_X0_quarrelAll_12] at e
      refine ⟨fun q8 => ?_, fun q8 => ?_⟩
      · exact ⟨(k2 + 1), by omega, (z_i1 k2).symm, e⟩
      · exact absurd hk (Nat.not_le.mpr (z_ltB2 (B := 12) q8 (by decide) (by omega)))
  · unfold D_X0_quarrelAll
    have e : r_X0_quarrelAll_2 c s (12 - 0) 0 S = F_X0_quarrelAll c s S := by rw [F_X0_quarrelAll]
    exact ⟨0, by omega, rfl, e⟩
noncomputable abbrev m_X0_recover : g_M := (g_cn 0, yX0_recover, cX0_recover, 3, none, g_look2 ttX0_recover)
set_option maxRecDepth 20000 in
theorem mt_X0_recover : g_mt 9 = some m_X0_recover := rfl
noncomputable def D_X0_recover_2 (s : Nat) (H2 : Int32 → v_Sf → Prop) (K : v_Sf → Prop) (x2 : Int32) (S : v_Sf) : Prop := (((Int32.ofInt 5) ≤ x2 → K S) ∧ (¬ ((Int32.ofInt 5) ≤ x2) → (0 ≤ x2.toInt → x2.toInt < 5 → (0 ≤ x2.toInt → x2.toInt < 5 → H2 (x2 + (Int32.ofInt 1)) (z_s S (s + 8) x2.toInt.toNat (z_max (Int32.ofInt 0) ((S (s + 8) x2.toInt.toNat) - (Int32.ofInt 1))))))))
noncomputable def D_X0_recover (s : Nat) (H2 : Int32 → v_Sf → Prop) (K : v_Sf → Prop) (S : v_Sf) : Prop := H2 (Int32.ofInt 0) S
set_option maxRecDepth 4000 in
theorem hd_X0_recover (L : Nat) (xs : Nat → Int32) {R : v_Rf} (s : Nat) (hs : z_st s) (H2 : Int32 → v_Sf → Prop) (K : v_Sf → Prop) (k2 : ∀ (x2 : Int32) (S : v_Sf), H2 x2 S → D_X0_recover_2 s H2 K x2 S) : ∀ n, (∀ (d : Nat) (j0 : Nat) (x2 : Int32) (S : v_Sf), H2 x2 S → u_P L xs n d m_X0_recover 2 [(0, .ref j0), (1, .ref (s + 1)), (2, .int x2)] [] S R (z_V R K)) := by
  intro n
  induction n using Nat.strongRecOn with
  | ind n ih =>
    intro d j0 x2 S hD
    have hD := k2 x2 S hD
    unfold D_X0_recover_2 at hD
    show u_P L xs n d m_X0_recover 2 [(0, .ref j0), (1, .ref (s + 1)), (2, .int x2)] [] S R _
    refine u_st1 rfl (fun _ => rfl) (fun m hm => ?_)
    refine u_st rfl (fun _ => rfl) ?_
    show u_P L xs m d m_X0_recover 4 [(0, .ref j0), (1, .ref (s + 1)), (2, .int x2)] [.int (Int32.ofInt 5), .int x2] S R _
    refine u_ic_ge rfl (fun h1 => ?_) (fun h1 => ?_)
    · have hD := hD.1 h1
      show u_P L xs m d m_X0_recover 31 [(0, .ref j0), (1, .ref (s + 1)), (2, .int x2)] [] S R _
      exact u_ret rfl rfl ⟨rfl, rfl, hD⟩
    · have hD := hD.2 h1
      show u_P L xs m d m_X0_recover 7 [(0, .ref j0), (1, .ref (s + 1)), (2, .int x2)] [] S R _
      refine u_st rfl (fun _ => rfl) ?_
      show u_P L xs m d m_X0_recover 8 [(0, .ref j0), (1, .ref (s + 1)), (2, .int x2)] [.ref (s + 1)] S R _
      refine u_getr rfl (z_st0 hs) rfl ?_
      refine u_st rfl (fun _ => rfl) ?_
      refine u_st rfl (fun _ => rfl) ?_
      refine u_st rfl (fun _ => rfl) ?_
      show u_P L xs m d m_X0_recover 14 [(0, .ref j0), (1, .ref (s + 1)), (2, .int x2)] [.ref (s + 1), .int (Int32.ofInt 0), .int x2, .ref (s + 9)] S R _
      refine u_getr rfl (z_st0 hs) rfl ?_
      refine u_st rfl (fun _ => rfl) ?_
      show u_P L xs m d m_X0_recover 18 [(0, .ref j0), (1, .ref (s + 1)), (2, .int x2)] [.int x2, .ref (s + 9), .int (Int32.ofInt 0), .int x2, .ref (s + 9)] S R _
      refine u_ialdE (v := S (s + 8) x2.toInt.toNat) rfl (z_st8 hs) rfl (fun b21 b22 => ?_)
      have hD := hD b21 b22
      show u_P L xs m d m_X0_recover 19 [(0, .ref j0), (1, .ref (s + 1)), (2, .int x2)] [.int (S (s + 8) x2.toInt.toNat), .int (Int32.ofInt 0), .int x2, .ref (s + 9)] S R _
      refine u_st rfl (fun _ => rfl) ?_
      refine u_st rfl (fun _ => rfl) ?_
      show u_P L xs m d m_X0_recover 21 [(0, .ref j0), (1, .ref (s + 1)), (2, .int x2)] [.int ((S (s + 8) x2.toInt.toNat) - (Int32.ofInt 1)), .int (Int32.ofInt 0), .int x2, .ref (s + 9)] S R _
      refine u_max rfl ?_
      show u_P L xs m d m_X0_recover 24 [(0, .ref j0), (1, .ref (s + 1)), (2, .int x2)] [.int (z_max (Int32.ofInt 0) ((S (s + 8) x2.toInt.toNat) - (Int32.ofInt 1))), .int x2, .ref (s + 9)] S R _
      refine u_iast rfl (z_st8 hs) (fun b31 b32 => ?_)
      have hD := hD b31 b32
      show u_P L xs m d m_X0_recover 25 [(0, .ref j0), (1, .ref (s + 1)), (2, .int x2)] [] (z_s S (s + 8) x2.toInt.toNat (z_max (Int32.ofInt 0) ((S (s + 8) x2.toInt.toNat) - (Int32.ofInt 1)))) R _
      refine u_st rfl (fun _ => rfl) ?_
      refine u_st rfl (fun _ => rfl) ?_
      refine u_lc (b := [(0, .ref j0), (1, .ref (s + 1)), (2, .int (x2 + (Int32.ofInt 1)))]) (show ([2, 0, 1] : List Nat).Nodup by decide) (show ([0, 1, 2] : List Nat).Nodup by decide) (fun i => match i with | 0 => rfl | 1 => rfl | 2 => rfl | _ + 3 => rfl) ?_
      exact (ih m hm) d j0 (x2 + (Int32.ofInt 1)) (z_s S (s + 8) x2.toInt.toNat (z_max (Int32.ofInt 0) ((S (s + 8) x2.toInt.toNat) - (Int32.ofInt 1)))) hD
set_option maxRecDepth 4000 in
theorem w_X0_recover (L : Nat) (xs : Nat → Int32) {R : v_Rf} (s : Nat) (hs : z_st s) (H2 : Int32 → v_Sf → Prop) (K : v_Sf → Prop) (k2 : ∀ (x2 : Int32) (S : v_Sf), H2 x2 S → D_X0_recover_2 s H2 K x2 S) (n d : Nat) (S : v_Sf) (hD : D_X0_recover s H2 K S) : u_P L xs n d m_X0_recover 0 (lv_args 0 [.ref 76, .ref (s + 1)]) [] S R (z_V R K) := by
  unfold D_X0_recover at hD
  show u_P L xs n d m_X0_recover 0 [(0, .ref 76), (1, .ref (s + 1))] [] S R _
  refine u_st rfl (fun _ => rfl) ?_
  refine u_st rfl (fun _ => rfl) ?_
  refine u_lc (b := [(0, .ref 76), (1, .ref (s + 1)), (2, .int (Int32.ofInt 0))]) (show ([2, 0, 1] : List Nat).Nodup by decide) (show ([0, 1, 2] : List Nat).Nodup by decide) (fun i => match i with | 0 => rfl | 1 => rfl | 2 => rfl | _ + 3 => rfl) ?_
  exact (hd_X0_recover L xs s hs H2 K k2 n) d (76) (Int32.ofInt 0) S hD
noncomputable def r_X0_recover_2 (s : Nat) : Nat → Nat → v_Sf → v_Sf
  | 0, k2, S => S
  | r + 1, k2, S => r_X0_recover_2 s r (k2 + 1) (z_s S (s + 8) (z_i k2).toInt.toNat (z_max (Int32.ofInt 0) ((S (s + 8) (z_i k2).toInt.toNat) - (Int32.ofInt 1))))
noncomputable def F_X0_recover (s : Nat) (S : v_Sf) : v_Sf := r_X0_recover_2 s (5 - 0) 0 S
noncomputable def g_X0_recover (s : Nat) (S : v_Sf) : v_Sf := F_X0_recover s S
theorem c_X0_recover (L : Nat) (xs : Nat → Int32) (n d : Nat) (s : Nat) (hs : z_st s) (S : v_Sf) (R : v_Rf) : u_P L xs n d m_X0_recover 0 (lv_args 0 [.ref 76, .ref (s + 1)]) [] S R (z_V R (fun S1 => g_X0_recover s S = S1)) := by
  refine w_X0_recover L xs s hs (fun y2 T => ∃ (k2 : Nat), k2 ≤ 5 ∧ z_i k2 = y2 ∧ r_X0_recover_2 s (5 - k2) k2 T = F_X0_recover s S) (fun S1 => g_X0_recover s S = S1) ?_ n d S ?_
  · rintro _ S1 ⟨k2, hkk, rfl, e⟩
    unfold D_X0_recover_2
    rcases Nat.lt_or_ge k2 (5) with hk | hk
    · rw [show 5 - k2 = (5 - (k2 + 1)) + 1 by omega, r_X0_recover_2] at e
      refine ⟨fun q1 => ?_, fun q1 => ?_⟩
      · exact absurd hk (Nat.not_lt.mpr (z_leB2 (B := 5) q1 (by decide) (by omega)))
      · intro _ _
        intro _ _
        exact ⟨(k2 + 1), by omega, (z_i1 k2).symm, e⟩
    · rw [show 5 - k2 = 0 by omega, r_X0_recover_2] at e
      refine ⟨fun q2 => ?_, fun q2 => ?_⟩
      · exact e.symm
      · exact absurd hk (Nat.not_le.mpr (z_ltB2 (B := 5) q2 (by decide) (by omega)))
  · unfold D_X0_recover
    have e : r_X0_recover_2 s (5 - 0) 0 S = F_X0_recover s S := by rw [F_X0_recover]
    exact ⟨0, by omega, rfl, e⟩
noncomputable abbrev m_X0_sicken : g_M := (g_cn 0, yX0_sicken, cX0_sicken, 4, none, g_look2 ttX0_sicken)
set_option maxRecDepth 20000 in
theorem mt_X0_sicken : g_mt 10 = some m_X0_sicken := rfl
noncomputable def g_X0_sicken (c : Nat) (s : Nat) (w : Int32) (k : Int32) (S : v_Sf) : v_Sf := (if (f_X7_works s k S) = 0 then S else (if ¬ (f_X7_inWard s w S) = 0 then (if (f_X3_illness c s w k (g_X7_draw s S)) ≤ (f_X7_draw s S) then g_X3_illness c s w k (g_X7_draw s S) else z_s (z_s (g_X3_illness c s w k (g_X7_draw s S)) (s + 8) k.toInt.toNat (((g_X3_illness c s w k (g_X7_draw s S)) (s + 7) k.toInt.toNat) + (Int32.ofInt 1))) 75 4 (((g_X3_illness c s w k (g_X7_draw s S)) 75 4) + (Int32.ofInt 1))) else S))
set_option maxRecDepth 4000 in
theorem c_X0_sicken (L : Nat) (xs : Nat → Int32) (n d : Nat) {R : v_Rf} (hW : z_W R) {c : Nat} (hL : R 50 2 = some (c + 1)) (hc : z_cd c) (s : Nat) (hs : z_st s) (w : Int32) (k : Int32) (S : v_Sf) : u_P L xs n d m_X0_sicken 0 (lv_args 0 [.ref 76, .ref (s + 1), .int w, .int k]) [] S R (z_V R (fun S1 => g_X0_sicken c s w k S = S1)) := by
  show u_P L xs n d m_X0_sicken 0 [(0, .ref 76), (1, .ref (s + 1)), (2, .int w), (3, .int k)] [] S R _
  refine u_st rfl (fun _ => rfl) ?_
  refine u_st rfl (fun _ => rfl) ?_
  show u_P L xs n d m_X0_sicken 2 [(0, .ref 76), (1, .ref (s + 1)), (2, .int w), (3, .int k)] [.int k, .ref (s + 1)] S R _
  refine u_cv (rest := []) rfl (by decide) mt_X7_works (z_st0 hs) rfl rfl rfl (Nat.le_of_ble_eq_true rfl) (Nat.le_of_ble_eq_true rfl) (Nat.le_of_ble_eq_true rfl) (fun d' => c_X7_works L xs n d' s hs k S R) ?_
  rintro _ _ _ ⟨_, rfl, rfl, rfl, rfl⟩
  show u_P L xs n d m_X0_sicken 5 [(0, .ref 76), (1, .ref (s + 1)), (2, .int w), (3, .int k)] [.int (f_X7_works s k S)] S R _
  refine u_if_eq rfl (fun h1 => ?_) (fun h1 => ?_)
  · show u_P L xs n d m_X0_sicken 16 [(0, .ref 76), (1, .ref (s + 1)), (2, .int w), (3, .int k)] [] S R _
    exact u_ret rfl rfl ⟨rfl, rfl, by rw [g_X0_sicken, if_pos h1]⟩
  · show u_P L xs n d m_X0_sicken 8 [(0, .ref 76), (1, .ref (s + 1)), (2, .int w), (3, .int k)] [] S R _
    refine u_st rfl (fun _ => rfl) ?_
    refine u_st rfl (fun _ => rfl) ?_
    show u_P L xs n d m_X0_sicken 10 [(0, .ref 76), (1, .ref (s + 1)), (2, .int w), (3, .int k)] [.int w, .ref (s + 1)] S R _
    refine u_cv (rest := []) rfl (by decide) mt_X7_inWard (z_st0 hs) rfl rfl rfl (Nat.le_of_ble_eq_true rfl) (Nat.le_of_ble_eq_true rfl) (Nat.le_of_ble_eq_true rfl) (fun d' => c_X7_inWard L xs n d' s hs w S R) ?_
    rintro _ _ _ ⟨_, rfl, rfl, rfl, rfl⟩
    show u_P L xs n d m_X0_sicken 13 [(0, .ref 76), (1, .ref (s + 1)), (2, .int w), (3, .int k)] [.int (f_X7_inWard s w S)] S R _
    refine u_if_ne rfl (fun h2 => ?_) (fun h2 => ?_)
    · show u_P L xs n d m_X0_sicken 17 [(0, .ref 76), (1, .ref (s + 1)), (2, .int w), (3, .int k)] [] S R _
      refine u_st rfl (fun _ => rfl) ?_
      show u_P L xs n d m_X0_sicken 18 [(0, .ref 76), (1, .ref (s + 1)), (2, .int w), (3, .int k)] [.ref (s + 1)] S R _
      refine u_cv (rest := []) rfl (by decide) mt_X7_draw (z_st0 hs) rfl rfl rfl (Nat.le_of_ble_eq_true rfl) (Nat.le_of_ble_eq_true rfl) (Nat.le_of_ble_eq_true rfl) (fun d' => c_X7_draw L xs n d' s hs S R) ?_
      rintro _ _ _ ⟨_, rfl, rfl, rfl, rfl⟩
      refine u_st rfl (fun _ => rfl) ?_
      show u_P L xs n d m_X0_sicken 22 [(0, .ref 76), (1, .ref (s + 1)), (2, .int w), (3, .int k)] [.ref 76, .int (f_X7_draw s S)] (g_X7_draw s S) R _
      refine u_getr rfl rfl rfl ?_
      refine u_st rfl (fun _ => rfl) ?_
      refine u_st rfl (fun _ => rfl) ?_
      refine u_st rfl (fun _ => rfl) ?_
      show u_P L xs n d m_X0_sicken 28 [(0, .ref 76), (1, .ref (s + 1)), (2, .int w), (3, .int k)] [.int k, .int w, .ref (s + 1), .ref 51, .int (f_X7_draw s S)] (g_X7_draw s S) R _
      refine u_cv (rest := [.int (f_X7_draw s S)]) rfl (by decide) mt_X3_illness rfl rfl rfl rfl (Nat.le_of_ble_eq_true rfl) (Nat.le_of_ble_eq_true rfl) (Nat.le_of_ble_eq_true rfl) (fun d' => c_X3_illness L xs n d' hW hL hc s hs w k (g_X7_draw s S)) ?_
      rintro _ _ _ ⟨_, rfl, rfl, rfl, rfl⟩
      show u_P L xs n d m_X0_sicken 31 [(0, .ref 76), (1, .ref (s + 1)), (2, .int w), (3, .int k)] [.int (f_X3_illness c s w k (g_X7_draw s S)), .int (f_X7_draw s S)] (g_X3_illness c s w k (g_X7_draw s S)) R _
      refine u_ic_ge rfl (fun h3 => ?_) (fun h3 => ?_)
      · show u_P L xs n d m_X0_sicken 58 [(0, .ref 76), (1, .ref (s + 1)), (2, .int w), (3, .int k)] [] (g_X3_illness c s w k (g_X7_draw s S)) R _
        exact u_ret rfl rfl ⟨rfl, rfl, by rw [g_X0_sicken, if_neg h1, if_pos h2, if_pos h3]⟩
      · show u_P L xs n d m_X0_sicken 34 [(0, .ref 76), (1, .ref (s + 1)), (2, .int w), (3, .int k)] [] (g_X3_illness c s w k (g_X7_draw s S)) R _
        refine u_st rfl (fun _ => rfl) ?_
        show u_P L xs n d m_X0_sicken 35 [(0, .ref 76), (1, .ref (s + 1)), (2, .int w), (3, .int k)] [.ref (s + 1)] (g_X3_illness c s w k (g_X7_draw s S)) R _
        refine u_getr rfl (z_st0 hs) rfl ?_
        refine u_st rfl (fun _ => rfl) ?_
        refine u_st rfl (fun _ => rfl) ?_
        show u_P L xs n d m_X0_sicken 40 [(0, .ref 76), (1, .ref (s + 1)), (2, .int w), (3, .int k)] [.ref (s + 1), .int k, .ref (s + 9)] (g_X3_illness c s w k (g_X7_draw s S)) R _
        refine u_getr rfl (z_st0 hs) rfl ?_
        refine u_st rfl (fun _ => rfl) ?_
        show u_P L xs n d m_X0_sicken 44 [(0, .ref 76), (1, .ref (s + 1)), (2, .int w), (3, .int k)] [.int k, .ref (s + 8), .int k, .ref (s + 9)] (g_X3_illness c s w k (g_X7_draw s S)) R _
        refine u_ialdE (v := (g_X3_illness c s w k (g_X7_draw s S)) (s + 7) k.toInt.toNat) rfl (z_st7 hs) rfl (fun b41 b42 => ?_)
        refine u_st rfl (fun _ => rfl) ?_
        refine u_st rfl (fun _ => rfl) ?_
        show u_P L xs n d m_X0_sicken 47 [(0, .ref 76), (1, .ref (s + 1)), (2, .int w), (3, .int k)] [.int (((g_X3_illness c s w k (g_X7_draw s S)) (s + 7) k.toInt.toNat) + (Int32.ofInt 1)), .int k, .ref (s + 9)] (g_X3_illness c s w k (g_X7_draw s S)) R _
        refine u_iast rfl (z_st8 hs) (fun b51 b52 => ?_)
        refine u_st rfl (fun _ => rfl) ?_
        refine u_st rfl (fun _ => rfl) ?_
        show u_P L xs n d m_X0_sicken 50 [(0, .ref 76), (1, .ref (s + 1)), (2, .int w), (3, .int k)] [.ref 76, .ref 76] (z_s (g_X3_illness c s w k (g_X7_draw s S)) (s + 8) k.toInt.toNat (((g_X3_illness c s w k (g_X7_draw s S)) (s + 7) k.toInt.toNat) + (Int32.ofInt 1))) R _
        refine u_getE (v := (g_X3_illness c s w k (g_X7_draw s S)) 75 4) rfl rfl rfl (z_sn (fun h => absurd h.1 (by have := z_stl hs; omega))) ?_
        refine u_st rfl (fun _ => rfl) ?_
        refine u_st rfl (fun _ => rfl) ?_
        show u_P L xs n d m_X0_sicken 55 [(0, .ref 76), (1, .ref (s + 1)), (2, .int w), (3, .int k)] [.int (((g_X3_illness c s w k (g_X7_draw s S)) 75 4) + (Int32.ofInt 1)), .ref 76] (z_s (g_X3_illness c s w k (g_X7_draw s S)) (s + 8) k.toInt.toNat (((g_X3_illness c s w k (g_X7_draw s S)) (s + 7) k.toInt.toNat) + (Int32.ofInt 1))) R _
        refine u_put rfl rfl rfl ?_
        show u_P L xs n d m_X0_sicken 58 [(0, .ref 76), (1, .ref (s + 1)), (2, .int w), (3, .int k)] [] (z_s (z_s (g_X3_illness c s w k (g_X7_draw s S)) (s + 8) k.toInt.toNat (((g_X3_illness c s w k (g_X7_draw s S)) (s + 7) k.toInt.toNat) + (Int32.ofInt 1))) 75 4 (((g_X3_illness c s w k (g_X7_draw s S)) 75 4) + (Int32.ofInt 1))) R _
        exact u_ret rfl rfl ⟨rfl, rfl, by rw [g_X0_sicken, if_neg h1, if_pos h2, if_neg h3]⟩
    · show u_P L xs n d m_X0_sicken 16 [(0, .ref 76), (1, .ref (s + 1)), (2, .int w), (3, .int k)] [] S R _
      exact u_ret rfl rfl ⟨rfl, rfl, by rw [g_X0_sicken, if_neg h1, if_neg h2]⟩
noncomputable abbrev m_X0_askRules : g_M := (g_cn 0, yX0_askRules, cX0_askRules, 6, none, g_look2 ttX0_askRules)
set_option maxRecDepth 20000 in
theorem mt_X0_askRules : g_mt 11 = some m_X0_askRules := rfl
noncomputable def D_X0_askRules_9 (b : Nat) (s : Nat) (H9 : Int32 → Int32 → Int32 → v_Sf → Prop) (K : v_Sf → Prop) (x2 : Int32) (x3 : Int32) (x4 : Int32) (S : v_Sf) : Prop := (((Int32.ofNat 6) ≤ x4 → ((x2 = (Int32.ofInt (-2)) → K (z_s S 75 5 ((S 75 5) + (Int32.ofInt 0)))) ∧ (¬ (x2 = (Int32.ofInt (-2))) → (((¬ (S 75 5) = 0) → K (z_s S 75 5 ((S 75 5) + (Int32.ofInt 1)))) ∧ (¬ (¬ (S 75 5) = 0) → K (z_s (z_s (z_s S 75 6 x2) 75 7 x3) 75 5 ((S 75 5) + (Int32.ofInt 1)))))))) ∧ (¬ ((Int32.ofNat 6) ≤ x4) → (((f_X3_firstBroken b s x4 S) = (Int32.ofInt (-2)) → H9 x2 x3 (x4 + (Int32.ofInt 1)) (g_X3_firstBroken b s x4 S)) ∧ (¬ ((f_X3_firstBroken b s x4 S) = (Int32.ofInt (-2))) → ((x2 = (Int32.ofInt (-2)) → H9 (f_X3_firstBroken b s x4 S) x4 (x4 + (Int32.ofInt 1)) (g_X3_firstBroken b s x4 S)) ∧ (¬ (x2 = (Int32.ofInt (-2))) → ((x2 ≤ (f_X3_firstBroken b s x4 S) → H9 x2 x3 (x4 + (Int32.ofInt 1)) (g_X3_firstBroken b s x4 S)) ∧ (¬ (x2 ≤ (f_X3_firstBroken b s x4 S)) → H9 (f_X3_firstBroken b s x4 S) x4 (x4 + (Int32.ofInt 1)) (g_X3_firstBroken b s x4 S)))))))))
noncomputable def D_X0_askRules (b : Nat) (s : Nat) (H9 : Int32 → Int32 → Int32 → v_Sf → Prop) (K : v_Sf → Prop) (S : v_Sf) : Prop := H9 (Int32.ofInt (-2)) (Int32.ofInt (-2)) (Int32.ofInt 0) S
set_option maxRecDepth 4000 in
theorem hd_X0_askRules (L : Nat) (xs : Nat → Int32) {R : v_Rf} (hW : z_W R) {b : Nat} (hB : R 50 3 = some (b + 1)) (hb : z_cd b) (s : Nat) (hs : z_st s) (H9 : Int32 → Int32 → Int32 → v_Sf → Prop) (K : v_Sf → Prop) (k9 : ∀ (x2 : Int32) (x3 : Int32) (x4 : Int32) (S : v_Sf), H9 x2 x3 x4 S → D_X0_askRules_9 b s H9 K x2 x3 x4 S) : ∀ n, (∀ (d : Nat) (x2 : Int32) (x3 : Int32) (x4 : Int32) (S : v_Sf), H9 x2 x3 x4 S → u_P L xs n d m_X0_askRules 9 [(0, .ref 76), (1, .ref (s + 1)), (2, .int x2), (3, .int x3), (4, .int x4)] [] S R (z_V R K)) ∧ (∀ (d : Nat) (j5 : Int32) (x2 : Int32) (x3 : Int32) (x4 : Int32) (S : v_Sf), H9 x2 x3 x4 S → u_P L xs n d m_X0_askRules 9 [(0, .ref 76), (1, .ref (s + 1)), (2, .int x2), (3, .int x3), (4, .int x4), (5, .int j5)] [] S R (z_V R K)) := by
  intro n
  induction n using Nat.strongRecOn with
  | ind n ih =>
    refine ⟨?_, ?_⟩
    · intro d x2 x3 x4 S hD
      have hD := k9 x2 x3 x4 S hD
      unfold D_X0_askRules_9 at hD
      show u_P L xs n d m_X0_askRules 9 [(0, .ref 76), (1, .ref (s + 1)), (2, .int x2), (3, .int x3), (4, .int x4)] [] S R _
      refine u_st1 rfl (fun _ => rfl) (fun m hm => ?_)
      refine u_st rfl (fun _ => rfl) ?_
      show u_P L xs m d m_X0_askRules 12 [(0, .ref 76), (1, .ref (s + 1)), (2, .int x2), (3, .int x3), (4, .int x4)] [.ref 76, .int x4] S R _
      refine u_getr rfl rfl rfl ?_
      show u_P L xs m d m_X0_askRules 15 [(0, .ref 76), (1, .ref (s + 1)), (2, .int x2), (3, .int x3), (4, .int x4)] [.ref 33, .int x4] S R _
      refine u_alr rfl rfl ?_
      show u_P L xs m d m_X0_askRules 16 [(0, .ref 76), (1, .ref (s + 1)), (2, .int x2), (3, .int x3), (4, .int x4)] [.int (Int32.ofNat 6), .int x4] S R _
      refine u_ic_ge rfl (fun h1 => ?_) (fun h1 => ?_)
      · have hD := hD.1 h1
        show u_P L xs m d m_X0_askRules 62 [(0, .ref 76), (1, .ref (s + 1)), (2, .int x2), (3, .int x3), (4, .int x4)] [] S R _
        refine u_st rfl (fun _ => rfl) ?_
        refine u_st rfl (fun _ => rfl) ?_
        show u_P L xs m d m_X0_askRules 65 [(0, .ref 76), (1, .ref (s + 1)), (2, .int x2), (3, .int x3), (4, .int x4)] [.int (Int32.ofInt (-2)), .int x2] S R _
        refine u_ic_eq rfl (fun h2 => ?_) (fun h2 => ?_)
        · have hD := hD.1 h2
          show u_P L xs m d m_X0_askRules 85 [(0, .ref 76), (1, .ref (s + 1)), (2, .int x2), (3, .int x3), (4, .int x4)] [] S R _
          refine u_st rfl (fun _ => rfl) ?_
          refine u_st rfl (fun _ => rfl) ?_
          show u_P L xs m d m_X0_askRules 87 [(0, .ref 76), (1, .ref (s + 1)), (2, .int x2), (3, .int x3), (4, .int x4)] [.ref 76, .ref 76] S R _
          refine u_getE (v := S 75 5) rfl rfl rfl rfl ?_
          refine u_st rfl (fun _ => rfl) ?_
          refine u_st rfl (fun _ => rfl) ?_
          show u_P L xs m d m_X0_askRules 93 [(0, .ref 76), (1, .ref (s + 1)), (2, .int x2), (3, .int x3), (4, .int x4)] [.int (Int32.ofInt (-2)), .int x2, .int (S 75 5), .ref 76] S R _
          refine u_ic_ne rfl (fun h3 => absurd h2 h3) (fun _ => ?_)
          show u_P L xs m d m_X0_askRules 96 [(0, .ref 76), (1, .ref (s + 1)), (2, .int x2), (3, .int x3), (4, .int x4)] [.int (S 75 5), .ref 76] S R _
          refine u_st rfl (fun _ => rfl) ?_
          refine u_st rfl (fun _ => rfl) ?_
          refine u_st rfl (fun _ => rfl) ?_
          show u_P L xs m d m_X0_askRules 102 [(0, .ref 76), (1, .ref (s + 1)), (2, .int x2), (3, .int x3), (4, .int x4)] [.int ((S 75 5) + (Int32.ofInt 0)), .ref 76] S R _
          refine u_put rfl rfl rfl ?_
          show u_P L xs m d m_X0_askRules 105 [(0, .ref 76), (1, .ref (s + 1)), (2, .int x2), (3, .int x3), (4, .int x4)] [] (z_s S 75 5 ((S 75 5) + (Int32.ofInt 0))) R _
          exact u_ret rfl rfl ⟨rfl, rfl, hD⟩
        · have hD := hD.2 h2
          show u_P L xs m d m_X0_askRules 68 [(0, .ref 76), (1, .ref (s + 1)), (2, .int x2), (3, .int x3), (4, .int x4)] [] S R _
          refine u_st rfl (fun _ => rfl) ?_
          show u_P L xs m d m_X0_askRules 69 [(0, .ref 76), (1, .ref (s + 1)), (2, .int x2), (3, .int x3), (4, .int x4)] [.ref 76] S R _
          refine u_getE (v := S 75 5) rfl rfl rfl rfl ?_
          show u_P L xs m d m_X0_askRules 72 [(0, .ref 76), (1, .ref (s + 1)), (2, .int x2), (3, .int x3), (4, .int x4)] [.int (S 75 5)] S R _
          refine u_if_ne rfl (fun h4 => ?_) (fun h4 => ?_)
          · have hD := hD.1 h4
            show u_P L xs m d m_X0_askRules 85 [(0, .ref 76), (1, .ref (s + 1)), (2, .int x2), (3, .int x3), (4, .int x4)] [] S R _
            refine u_st rfl (fun _ => rfl) ?_
            refine u_st rfl (fun _ => rfl) ?_
            show u_P L xs m d m_X0_askRules 87 [(0, .ref 76), (1, .ref (s + 1)), (2, .int x2), (3, .int x3), (4, .int x4)] [.ref 76, .ref 76] S R _
            refine u_getE (v := S 75 5) rfl rfl rfl rfl ?_
            refine u_st rfl (fun _ => rfl) ?_
            refine u_st rfl (fun _ => rfl) ?_
            show u_P L xs m d m_X0_askRules 93 [(0, .ref 76), (1, .ref (s + 1)), (2, .int x2), (3, .int x3), (4, .int x4)] [.int (Int32.ofInt (-2)), .int x2, .int (S 75 5), .ref 76] S R _
            refine u_ic_ne rfl (fun _ => ?_) (fun h5 => absurd h2 h5)
            show u_P L xs m d m_X0_askRules 100 [(0, .ref 76), (1, .ref (s + 1)), (2, .int x2), (3, .int x3), (4, .int x4)] [.int (S 75 5), .ref 76] S R _
            refine u_st rfl (fun _ => rfl) ?_
            refine u_st rfl (fun _ => rfl) ?_
            show u_P L xs m d m_X0_askRules 102 [(0, .ref 76), (1, .ref (s + 1)), (2, .int x2), (3, .int x3), (4, .int x4)] [.int ((S 75 5) + (Int32.ofInt 1)), .ref 76] S R _
            refine u_put rfl rfl rfl ?_
            show u_P L xs m d m_X0_askRules 105 [(0, .ref 76), (1, .ref (s + 1)), (2, .int x2), (3, .int x3), (4, .int x4)] [] (z_s S 75 5 ((S 75 5) + (Int32.ofInt 1))) R _
            exact u_ret rfl rfl ⟨rfl, rfl, hD⟩
          · have hD := hD.2 h4
            show u_P L xs m d m_X0_askRules 75 [(0, .ref 76), (1, .ref (s + 1)), (2, .int x2), (3, .int x3), (4, .int x4)] [] S R _
            refine u_st rfl (fun _ => rfl) ?_
            refine u_st rfl (fun _ => rfl) ?_
            show u_P L xs m d m_X0_askRules 77 [(0, .ref 76), (1, .ref (s + 1)), (2, .int x2), (3, .int x3), (4, .int x4)] [.int x2, .ref 76] S R _
            refine u_put rfl rfl rfl ?_
            refine u_st rfl (fun _ => rfl) ?_
            refine u_st rfl (fun _ => rfl) ?_
            show u_P L xs m d m_X0_askRules 82 [(0, .ref 76), (1, .ref (s + 1)), (2, .int x2), (3, .int x3), (4, .int x4)] [.int x3, .ref 76] (z_s S 75 6 x2) R _
            refine u_put rfl rfl rfl ?_
            refine u_st rfl (fun _ => rfl) ?_
            refine u_st rfl (fun _ => rfl) ?_
            show u_P L xs m d m_X0_askRules 87 [(0, .ref 76), (1, .ref (s + 1)), (2, .int x2), (3, .int x3), (4, .int x4)] [.ref 76, .ref 76] (z_s (z_s S 75 6 x2) 75 7 x3) R _
            refine u_getE (v := S 75 5) rfl rfl rfl ((z_sn (fun h => absurd h.2 (by decide))).trans (z_sn (fun h => absurd h.2 (by decide)))) ?_
            refine u_st rfl (fun _ => rfl) ?_
            refine u_st rfl (fun _ => rfl) ?_
            show u_P L xs m d m_X0_askRules 93 [(0, .ref 76), (1, .ref (s + 1)), (2, .int x2), (3, .int x3), (4, .int x4)] [.int (Int32.ofInt (-2)), .int x2, .int (S 75 5), .ref 76] (z_s (z_s S 75 6 x2) 75 7 x3) R _
            refine u_ic_ne rfl (fun _ => ?_) (fun h6 => absurd h2 h6)
            show u_P L xs m d m_X0_askRules 100 [(0, .ref 76), (1, .ref (s + 1)), (2, .int x2), (3, .int x3), (4, .int x4)] [.int (S 75 5), .ref 76] (z_s (z_s S 75 6 x2) 75 7 x3) R _
            refine u_st rfl (fun _ => rfl) ?_
            refine u_st rfl (fun _ => rfl) ?_
            show u_P L xs m d m_X0_askRules 102 [(0, .ref 76), (1, .ref (s + 1)), (2, .int x2), (3, .int x3), (4, .int x4)] [.int ((S 75 5) + (Int32.ofInt 1)), .ref 76] (z_s (z_s S 75 6 x2) 75 7 x3) R _
            refine u_put rfl rfl rfl ?_
            show u_P L xs m d m_X0_askRules 105 [(0, .ref 76), (1, .ref (s + 1)), (2, .int x2), (3, .int x3), (4, .int x4)] [] (z_s (z_s (z_s S 75 6 x2) 75 7 x3) 75 5 ((S 75 5) + (Int32.ofInt 1))) R _
            exact u_ret rfl rfl ⟨rfl, rfl, hD⟩
      · have hD := hD.2 h1
        show u_P L xs m d m_X0_askRules 19 [(0, .ref 76), (1, .ref (s + 1)), (2, .int x2), (3, .int x3), (4, .int x4)] [] S R _
        refine u_st rfl (fun _ => rfl) ?_
        show u_P L xs m d m_X0_askRules 20 [(0, .ref 76), (1, .ref (s + 1)), (2, .int x2), (3, .int x3), (4, .int x4)] [.ref 76] S R _
        refine u_getr rfl rfl rfl ?_
        refine u_st rfl (fun _ => rfl) ?_
        refine u_st rfl (fun _ => rfl) ?_
        show u_P L xs m d m_X0_askRules 26 [(0, .ref 76), (1, .ref (s + 1)), (2, .int x2), (3, .int x3), (4, .int x4)] [.int x4, .ref (s + 1), .ref 51] S R _
        refine u_cv (rest := []) rfl (by decide) mt_X3_firstBroken rfl rfl rfl rfl (Nat.le_of_ble_eq_true rfl) (Nat.le_of_ble_eq_true rfl) (Nat.le_of_ble_eq_true rfl) (fun d' => c_X3_firstBroken L xs m d' hW hB hb s hs x4 S) ?_
        rintro _ _ _ ⟨_, rfl, rfl, rfl, rfl⟩
        refine u_st rfl (fun _ => rfl) ?_
        refine u_st rfl (fun _ => rfl) ?_
        refine u_st rfl (fun _ => rfl) ?_
        show u_P L xs m d m_X0_askRules 35 [(5, .int (f_X3_firstBroken b s x4 S)), (0, .ref 76), (1, .ref (s + 1)), (2, .int x2), (3, .int x3), (4, .int x4)] [.int (Int32.ofInt (-2)), .int (f_X3_firstBroken b s x4 S)] (g_X3_firstBroken b s x4 S) R _
        refine u_ic_eq rfl (fun h7 => ?_) (fun h7 => ?_)
        · have hD := hD.1 h7
          show u_P L xs m d m_X0_askRules 56 [(5, .int (f_X3_firstBroken b s x4 S)), (0, .ref 76), (1, .ref (s + 1)), (2, .int x2), (3, .int x3), (4, .int x4)] [] (g_X3_firstBroken b s x4 S) R _
          refine u_st rfl (fun _ => rfl) ?_
          refine u_st rfl (fun _ => rfl) ?_
          refine u_lc (b := [(0, .ref 76), (1, .ref (s + 1)), (2, .int x2), (3, .int x3), (4, .int (x4 + (Int32.ofInt 1))), (5, .int (f_X3_firstBroken b s x4 S))]) (show ([4, 5, 0, 1, 2, 3] : List Nat).Nodup by decide) (show ([0, 1, 2, 3, 4, 5] : List Nat).Nodup by decide) (fun i => match i with | 0 => rfl | 1 => rfl | 2 => rfl | 3 => rfl | 4 => rfl | 5 => rfl | _ + 6 => rfl) ?_
          exact (ih m hm).2 d (f_X3_firstBroken b s x4 S) x2 x3 (x4 + (Int32.ofInt 1)) (g_X3_firstBroken b s x4 S) hD
        · have hD := hD.2 h7
          show u_P L xs m d m_X0_askRules 38 [(5, .int (f_X3_firstBroken b s x4 S)), (0, .ref 76), (1, .ref (s + 1)), (2, .int x2), (3, .int x3), (4, .int x4)] [] (g_X3_firstBroken b s x4 S) R _
          refine u_st rfl (fun _ => rfl) ?_
          refine u_st rfl (fun _ => rfl) ?_
          show u_P L xs m d m_X0_askRules 41 [(5, .int (f_X3_firstBroken b s x4 S)), (0, .ref 76), (1, .ref (s + 1)), (2, .int x2), (3, .int x3), (4, .int x4)] [.int (Int32.ofInt (-2)), .int x2] (g_X3_firstBroken b s x4 S) R _
          refine u_ic_eq rfl (fun h8 => ?_) (fun h8 => ?_)
          · have hD := hD.1 h8
            show u_P L xs m d m_X0_askRules 50 [(5, .int (f_X3_firstBroken b s x4 S)), (0, .ref 76), (1, .ref (s + 1)), (2, .int x2), (3, .int x3), (4, .int x4)] [] (g_X3_firstBroken b s x4 S) R _
            refine u_st rfl (fun _ => rfl) ?_
            refine u_st rfl (fun _ => rfl) ?_
            refine u_st rfl (fun _ => rfl) ?_
            refine u_st rfl (fun _ => rfl) ?_
            refine u_st rfl (fun _ => rfl) ?_
            refine u_st rfl (fun _ => rfl) ?_
            refine u_lc (b := [(0, .ref 76), (1, .ref (s + 1)), (2, .int (f_X3_firstBroken b s x4 S)), (3, .int x4), (4, .int (x4 + (Int32.ofInt 1))), (5, .int (f_X3_firstBroken b s x4 S))]) (show ([4, 3, 2, 5, 0, 1] : List Nat).Nodup by decide) (show ([0, 1, 2, 3, 4, 5] : List Nat).Nodup by decide) (fun i => match i with | 0 => rfl | 1 => rfl | 2 => rfl | 3 => rfl | 4 => rfl | 5 => rfl | _ + 6 => rfl) ?_
            exact (ih m hm).2 d (f_X3_firstBroken b s x4 S) (f_X3_firstBroken b s x4 S) x4 (x4 + (Int32.ofInt 1)) (g_X3_firstBroken b s x4 S) hD
          · have hD := hD.2 h8
            show u_P L xs m d m_X0_askRules 44 [(5, .int (f_X3_firstBroken b s x4 S)), (0, .ref 76), (1, .ref (s + 1)), (2, .int x2), (3, .int x3), (4, .int x4)] [] (g_X3_firstBroken b s x4 S) R _
            refine u_st rfl (fun _ => rfl) ?_
            refine u_st rfl (fun _ => rfl) ?_
            show u_P L xs m d m_X0_askRules 47 [(5, .int (f_X3_firstBroken b s x4 S)), (0, .ref 76), (1, .ref (s + 1)), (2, .int x2), (3, .int x3), (4, .int x4)] [.int x2, .int (f_X3_firstBroken b s x4 S)] (g_X3_firstBroken b s x4 S) R _
            refine u_ic_ge rfl (fun h9 => ?_) (fun h9 => ?_)
            · have hD := hD.1 h9
              show u_P L xs m d m_X0_askRules 56 [(5, .int (f_X3_firstBroken b s x4 S)), (0, .ref 76), (1, .ref (s + 1)), (2, .int x2), (3, .int x3), (4, .int x4)] [] (g_X3_firstBroken b s x4 S) R _
              refine u_st rfl (fun _ => rfl) ?_
              refine u_st rfl (fun _ => rfl) ?_
              refine u_lc (b := [(0, .ref 76), (1, .ref (s + 1)), (2, .int x2), (3, .int x3), (4, .int (x4 + (Int32.ofInt 1))), (5, .int (f_X3_firstBroken b s x4 S))]) (show ([4, 5, 0, 1, 2, 3] : List Nat).Nodup by decide) (show ([0, 1, 2, 3, 4, 5] : List Nat).Nodup by decide) (fun i => match i with | 0 => rfl | 1 => rfl | 2 => rfl | 3 => rfl | 4 => rfl | 5 => rfl | _ + 6 => rfl) ?_
              exact (ih m hm).2 d (f_X3_firstBroken b s x4 S) x2 x3 (x4 + (Int32.ofInt 1)) (g_X3_firstBroken b s x4 S) hD
            · have hD := hD.2 h9
              show u_P L xs m d m_X0_askRules 50 [(5, .int (f_X3_firstBroken b s x4 S)), (0, .ref 76), (1, .ref (s + 1)), (2, .int x2), (3, .int x3), (4, .int x4)] [] (g_X3_firstBroken b s x4 S) R _
              refine u_st rfl (fun _ => rfl) ?_
              refine u_st rfl (fun _ => rfl) ?_
              refine u_st rfl (fun _ => rfl) ?_
              refine u_st rfl (fun _ => rfl) ?_
              refine u_st rfl (fun _ => rfl) ?_
              refine u_st rfl (fun _ => rfl) ?_
              refine u_lc (b := [(0, .ref 76), (1, .ref (s + 1)), (2, .int (f_X3_firstBroken b s x4 S)), (3, .int x4), (4, .int (x4 + (Int32.ofInt 1))), (5, .int (f_X3_firstBroken b s x4 S))]) (show ([4, 3, 2, 5, 0, 1] : List Nat).Nodup by decide) (show ([0, 1, 2, 3, 4, 5] : List Nat).Nodup by decide) (fun i => match i with | 0 => rfl | 1 => rfl | 2 => rfl | 3 => rfl | 4 => rfl | 5 => rfl | _ + 6 => rfl) ?_
              exact (ih m hm).2 d (f_X3_firstBroken b s x4 S) (f_X3_firstBroken b s x4 S) x4 (x4 + (Int32.ofInt 1)) (g_X3_firstBroken b s x4 S) hD
    · intro d j5 x2 x3 x4 S hD
      have hD := k9 x2 x3 x4 S hD
      unfold D_X0_askRules_9 at hD
      show u_P L xs n d m_X0_askRules 9 [(0, .ref 76), (1, .ref (s + 1)), (2, .int x2), (3, .int x3), (4, .int x4), (5, .int j5)] [] S R _
      refine u_st1 rfl (fun _ => rfl) (fun m hm => ?_)
      refine u_st rfl (fun _ => rfl) ?_
      show u_P L xs m d m_X0_askRules 12 [(0, .ref 76), (1, .ref (s + 1)), (2, .int x2), (3, .int x3), (4, .int x4), (5, .int j5)] [.ref 76, .int x4] S R _
      refine u_getr rfl rfl rfl ?_
      show u_P L xs m d m_X0_askRules 15 [(0, .ref 76), (1, .ref (s + 1)), (2, .int x2), (3, .int x3), (4, .int x4), (5, .int j5)] [.ref 33, .int x4] S R _
      refine u_alr rfl rfl ?_
      show u_P L xs m d m_X0_askRules 16 [(0, .ref 76), (1, .ref (s + 1)), (2, .int x2), (3, .int x3), (4, .int x4), (5, .int j5)] [.int (Int32.ofNat 6), .int x4] S R _
      refine u_ic_ge rfl (fun h1 => ?_) (fun h1 => ?_)
      · have hD := hD.1 h1
        show u_P L xs m d m_X0_askRules 62 [(0, .ref 76), (1, .ref (s + 1)), (2, .int x2), (3, .int x3), (4, .int x4), (5, .int j5)] [] S R _
        refine u_st rfl (fun _ => rfl) ?_
        refine u_st rfl (fun _ => rfl) ?_
        show u_P L xs m d m_X0_askRules 65 [(0, .ref 76), (1, .ref (s + 1)), (2, .int x2), (3, .int x3), (4, .int x4), (5, .int j5)] [.int (Int32.ofInt (-2)), .int x2] S R _
        refine u_ic_eq rfl (fun h2 => ?_) (fun h2 => ?_)
        · have hD := hD.1 h2
          show u_P L xs m d m_X0_askRules 85 [(0, .ref 76), (1, .ref (s + 1)), (2, .int x2), (3, .int x3), (4, .int x4), (5, .int j5)] [] S R _
          refine u_st rfl (fun _ => rfl) ?_
          refine u_st rfl (fun _ => rfl) ?_
          show u_P L xs m d m_X0_askRules 87 [(0, .ref 76), (1, .ref (s + 1)), (2, .int x2), (3, .int x3), (4, .int x4), (5, .int j5)] [.ref 76, .ref 76] S R _
          refine u_getE (v := S 75 5) rfl rfl rfl rfl ?_
          refine u_st rfl (fun _ => rfl) ?_
          refine u_st rfl (fun _ => rfl) ?_
          show u_P L xs m d m_X0_askRules 93 [(0, .ref 76), (1, .ref (s + 1)), (2, .int x2), (3, .int x3), (4, .int x4), (5, .int j5)] [.int (Int32.ofInt (-2)), .int x2, .int (S 75 5), .ref 76] S R _
          refine u_ic_ne rfl (fun h3 => absurd h2 h3) (fun _ => ?_)
          show u_P L xs m d m_X0_askRules 96 [(0, .ref 76), (1, .ref (s + 1)), (2, .int x2), (3, .int x3), (4, .int x4), (5, .int j5)] [.int (S 75 5), .ref 76] S R _
          refine u_st rfl (fun _ => rfl) ?_
          refine u_st rfl (fun _ => rfl) ?_
          refine u_st rfl (fun _ => rfl) ?_
          show u_P L xs m d m_X0_askRules 102 [(0, .ref 76), (1, .ref (s + 1)), (2, .int x2), (3, .int x3), (4, .int x4), (5, .int j5)] [.int ((S 75 5) + (Int32.ofInt 0)), .ref 76] S R _
          refine u_put rfl rfl rfl ?_
          show u_P L xs m d m_X0_askRules 105 [(0, .ref 76), (1, .ref (s + 1)), (2, .int x2), (3, .int x3), (4, .int x4), (5, .int j5)] [] (z_s S 75 5 ((S 75 5) + (Int32.ofInt 0))) R _
          exact u_ret rfl rfl ⟨rfl, rfl, hD⟩
        · have hD := hD.2 h2
          show u_P L xs m d m_X0_askRules 68 [(0, .ref 76), (1, .ref (s + 1)), (2, .int x2), (3, .int x3), (4, .int x4), (5, .int j5)] [] S R _
          refine u_st rfl (fun _ => rfl) ?_
          show u_P L xs m d m_X0_askRules 69 [(0, .ref 76), (1, .ref (s + 1)), (2, .int x2), (3, .int x3), (4, .int x4), (5, .int j5)] [.ref 76] S R _
          refine u_getE (v := S 75 5) rfl rfl rfl rfl ?_
          show u_P L xs m d m_X0_askRules 72 [(0, .ref 76), (1, .ref (s + 1)), (2, .int x2), (3, .int x3), (4, .int x4), (5, .int j5)] [.int (S 75 5)] S R _
          refine u_if_ne rfl (fun h4 => ?_) (fun h4 => ?_)
          · have hD := hD.1 h4
            show u_P L xs m d m_X0_askRules 85 [(0, .ref 76), (1, .ref (s + 1)), (2, .int x2), (3, .int x3), (4, .int x4), (5, .int j5)] [] S R _
            refine u_st rfl (fun _ => rfl) ?_
            refine u_st rfl (fun _ => rfl) ?_
            show u_P L xs m d m_X0_askRules 87 [(0, .ref 76), (1, .ref (s + 1)), (2, .int x2), (3, .int x3), (4, .int x4), (5, .int j5)] [.ref 76, .ref 76] S R _
            refine u_getE (v := S 75 5) rfl rfl rfl rfl ?_
            refine u_st rfl (fun _ => rfl) ?_
            refine u_st rfl (fun _ => rfl) ?_
            show u_P L xs m d m_X0_askRules 93 [(0, .ref 76), (1, .ref (s + 1)), (2, .int x2), (3, .int x3), (4, .int x4), (5, .int j5)] [.int (Int32.ofInt (-2)), .int x2, .int (S 75 5), .ref 76] S R _
            refine u_ic_ne rfl (fun _ => ?_) (fun h5 => absurd h2 h5)
            show u_P L xs m d m_X0_askRules 100 [(0, .ref 76), (1, .ref (s + 1)), (2, .int x2), (3, .int x3), (4, .int x4), (5, .int j5)] [.int (S 75 5), .ref 76] S R _
            refine u_st rfl (fun _ => rfl) ?_
            refine u_st rfl (fun _ => rfl) ?_
            show u_P L xs m d m_X0_askRules 102 [(0, .ref 76), (1, .ref (s + 1)), (2, .int x2), (3, .int x3), (4, .int x4), (5, .int j5)] [.int ((S 75 5) + (Int32.ofInt 1)), .ref 76] S R _
            refine u_put rfl rfl rfl ?_
            show u_P L xs m d m_X0_askRules 105 [(0, .ref 76), (1, .ref (s + 1)), (2, .int x2), (3, .int x3), (4, .int x4), (5, .int j5)] [] (z_s S 75 5 ((S 75 5) + (Int32.ofInt 1))) R _
            exact u_ret rfl rfl ⟨rfl, rfl, hD⟩
          · have hD := hD.2 h4
            show u_P L xs m d m_X0_askRules 75 [(0, .ref 76), (1, .ref (s + 1)), (2, .int x2), (3, .int x3), (4, .int x4), (5, .int j5)] [] S R _
            refine u_st rfl (fun _ => rfl) ?_
            refine u_st rfl (fun _ => rfl) ?_
            show u_P L xs m d m_X0_askRules 77 [(0, .ref 76), (1, .ref (s + 1)), (2, .int x2), (3, .int x3), (4, .int x4), (5, .int j5)] [.int x2, .ref 76] S R _
            refine u_put rfl rfl rfl ?_
            refine u_st rfl (fun _ => rfl) ?_
            refine u_st rfl (fun _ => rfl) ?_
            show u_P L xs m d m_X0_askRules 82 [(0, .ref 76), (1, .ref (s + 1)), (2, .int x2), (3, .int x3), (4, .int x4), (5, .int j5)] [.int x3, .ref 76] (z_s S 75 6 x2) R _
            refine u_put rfl rfl rfl ?_
            refine u_st rfl (fun _ => rfl) ?_
            refine u_st rfl (fun _ => rfl) ?_
            show u_P L xs m d m_X0_askRules 87 [(0, .ref 76), (1, .ref (s + 1)), (2, .int x2), (3, .int x3), (4, .int x4), (5, .int j5)] [.ref 76, .ref 76] (z_s (z_s S 75 6 x2) 75 7 x3) R _
            refine u_getE (v := S 75 5) rfl rfl rfl ((z_sn (fun h => absurd h.2 (by decide))).trans (z_sn (fun h => absurd h.2 (by decide)))) ?_
            refine u_st rfl (fun _ => rfl) ?_
            refine u_st rfl (fun _ => rfl) ?_
            show u_P L xs m d m_X0_askRules 93 [(0, .ref 76), (1, .ref (s + 1)), (2, .int x2), (3, .int x3), (4, .int x4), (5, .int j5)] [.int (Int32.ofInt (-2)), .int x2, .int (S 75 5), .ref 76] (z_s (z_s S 75 6 x2) 75 7 x3) R _
            refine u_ic_ne rfl (fun _ => ?_) (fun h6 => absurd h2 h6)
            show u_P L xs m d m_X0_askRules 100 [(0, .ref 76), (1, .ref (s + 1)), (2, .int x2), (3, .int x3), (4, .int x4), (5, .int j5)] [.int (S 75 5), .ref 76] (z_s (z_s S 75 6 x2) 75 7 x3) R _
            refine u_st rfl (fun _ => rfl) ?_
            refine u_st rfl (fun _ => rfl) ?_
            show u_P L xs m d m_X0_askRules 102 [(0, .ref 76), (1, .ref (s + 1)), (2, .int x2), (3, .int x3), (4, .int x4), (5, .int j5)] [.int ((S 75 5) + (Int32.ofInt 1)), .ref 76] (z_s (z_s S 75 6 x2) 75 7 x3) R _
            refine u_put rfl rfl rfl ?_
            show u_P L xs m d m_X0_askRules 105 [(0, .ref 76), (1, .ref (s + 1)), (2, .int x2), (3, .int x3), (4, .int x4), (5, .int j5)] [] (z_s (z_s (z_s S 75 6 x2) 75 7 x3) 75 5 ((S 75 5) + (Int32.ofInt 1))) R _
            exact u_ret rfl rfl ⟨rfl, rfl, hD⟩
      · have hD := hD.2 h1
        show u_P L xs m d m_X0_askRules 19 [(0, .ref 76), (1, .ref (s + 1)), (2, .int x2), (3, .int x3), (4, .int x4), (5, .int j5)] [] S R _
        refine u_st rfl (fun _ => rfl) ?_
        show u_P L xs m d m_X0_askRules 20 [(0, .ref 76), (1, .ref (s + 1)), (2, .int x2), (3, .int x3), (4, .int x4), (5, .int j5)] [.ref 76] S R _
        refine u_getr rfl rfl rfl ?_
        refine u_st rfl (fun _ => rfl) ?_
        refine u_st rfl (fun _ => rfl) ?_
        show u_P L xs m d m_X0_askRules 26 [(0, .ref 76), (1, .ref (s + 1)), (2, .int x2), (3, .int x3), (4, .int x4), (5, .int j5)] [.int x4, .ref (s + 1), .ref 51] S R _
        refine u_cv (rest := []) rfl (by decide) mt_X3_firstBroken rfl rfl rfl rfl (Nat.le_of_ble_eq_true rfl) (Nat.le_of_ble_eq_true rfl) (Nat.le_of_ble_eq_true rfl) (fun d' => c_X3_firstBroken L xs m d' hW hB hb s hs x4 S) ?_
        rintro _ _ _ ⟨_, rfl, rfl, rfl, rfl⟩
        refine u_st rfl (fun _ => rfl) ?_
        refine u_st rfl (fun _ => rfl) ?_
        refine u_st rfl (fun _ => rfl) ?_
        show u_P L xs m d m_X0_askRules 35 [(5, .int (f_X3_firstBroken b s x4 S)), (0, .ref 76), (1, .ref (s + 1)), (2, .int x2), (3, .int x3), (4, .int x4)] [.int (Int32.ofInt (-2)), .int (f_X3_firstBroken b s x4 S)] (g_X3_firstBroken b s x4 S) R _
        refine u_ic_eq rfl (fun h7 => ?_) (fun h7 => ?_)
        · have hD := hD.1 h7
          show u_P L xs m d m_X0_askRules 56 [(5, .int (f_X3_firstBroken b s x4 S)), (0, .ref 76), (1, .ref (s + 1)), (2, .int x2), (3, .int x3), (4, .int x4)] [] (g_X3_firstBroken b s x4 S) R _
          refine u_st rfl (fun _ => rfl) ?_
          refine u_st rfl (fun _ => rfl) ?_
          refine u_lc (b := [(0, .ref 76), (1, .ref (s + 1)), (2, .int x2), (3, .int x3), (4, .int (x4 + (Int32.ofInt 1))), (5, .int (f_X3_firstBroken b s x4 S))]) (show ([4, 5, 0, 1, 2, 3] : List Nat).Nodup by decide) (show ([0, 1, 2, 3, 4, 5] : List Nat).Nodup by decide) (fun i => match i with | 0 => rfl | 1 => rfl | 2 => rfl | 3 => rfl | 4 => rfl | 5 => rfl | _ + 6 => rfl) ?_
          exact (ih m hm).2 d (f_X3_firstBroken b s x4 S) x2 x3 (x4 + (Int32.ofInt 1)) (g_X3_firstBroken b s x4 S) hD
        · have hD := hD.2 h7
          show u_P L xs m d m_X0_askRules 38 [(5, .int (f_X3_firstBroken b s x4 S)), (0, .ref 76), (1, .ref (s + 1)), (2, .int x2), (3, .int x3), (4, .int x4)] [] (g_X3_firstBroken b s x4 S) R _
          refine u_st rfl (fun _ => rfl) ?_
          refine u_st rfl (fun _ => rfl) ?_
          show u_P L xs m d m_X0_askRules 41 [(5, .int (f_X3_firstBroken b s x4 S)), (0, .ref 76), (1, .ref (s + 1)), (2, .int x2), (3, .int x3), (4, .int x4)] [.int (Int32.ofInt (-2)), .int x2] (g_X3_firstBroken b s x4 S) R _
          refine u_ic_eq rfl (fun h8 => ?_) (fun h8 => ?_)
          · have hD := hD.1 h8
            show u_P L xs m d m_X0_askRules 50 [(5, .int (f_X3_firstBroken b s x4 S)), (0, .ref 76), (1, .ref (s + 1)), (2, .int x2), (3, .int x3), (4, .int x4)] [] (g_X3_firstBroken b s x4 S) R _
            refine u_st rfl (fun _ => rfl) ?_
            refine u_st rfl (fun _ => rfl) ?_
            refine u_st rfl (fun _ => rfl) ?_
            refine u_st rfl (fun _ => rfl) ?_
            refine u_st rfl (fun _ => rfl) ?_
            refine u_st rfl (fun _ => rfl) ?_
            refine u_lc (b := [(0, .ref 76), (1, .ref (s + 1)), (2, .int (f_X3_firstBroken b s x4 S)), (3, .int x4), (4, .int (x4 + (Int32.ofInt 1))), (5, .int (f_X3_firstBroken b s x4 S))]) (show ([4, 3, 2, 5, 0, 1] : List Nat).Nodup by decide) (show ([0, 1, 2, 3, 4, 5] : List Nat).Nodup by decide) (fun i => match i with | 0 => rfl | 1 => rfl | 2 => rfl | 3 => rfl | 4 => rfl | 5 => rfl | _ + 6 => rfl) ?_
            exact (ih m hm).2 d (f_X3_firstBroken b s x4 S) (f_X3_firstBroken b s x4 S) x4 (x4 + (Int32.ofInt 1)) (g_X3_firstBroken b s x4 S) hD
          · have hD := hD.2 h8
            show u_P L xs m d m_X0_askRules 44 [(5, .int (f_X3_firstBroken b s x4 S)), (0, .ref 76), (1, .ref (s + 1)), (2, .int x2), (3, .int x3), (4, .int x4)] [] (g_X3_firstBroken b s x4 S) R _
            refine u_st rfl (fun _ => rfl) ?_
            refine u_st rfl (fun _ => rfl) ?_
            show u_P L xs m d m_X0_askRules 47 [(5, .int (f_X3_firstBroken b s x4 S)), (0, .ref 76), (1, .ref (s + 1)), (2, .int x2), (3, .int x3), (4, .int x4)] [.int x2, .int (f_X3_firstBroken b s x4 S)] (g_X3_firstBroken b s x4 S) R _
            refine u_ic_ge rfl (fun h9 => ?_) (fun h9 => ?_)
            · have hD := hD.1 h9
              show u_P L xs m d m_X0_askRules 56 [(5, .int (f_X3_firstBroken b s x4 S)), (0, .ref 76), (1, .ref (s + 1)), (2, .int x2), (3, .int x3), (4, .int x4)] [] (g_X3_firstBroken b s x4 S) R _
              refine u_st rfl (fun _ => rfl) ?_
              refine u_st rfl (fun _ => rfl) ?_
              refine u_lc (b := [(0, .ref 76), (1, .ref (s + 1)), (2, .int x2), (3, .int x3), (4, .int (x4 + (Int32.ofInt 1))), (5, .int (f_X3_firstBroken b s x4 S))]) (show ([4, 5, 0, 1, 2, 3] : List Nat).Nodup by decide) (show ([0, 1, 2, 3, 4, 5] : List Nat).Nodup by decide) (fun i => match i with | 0 => rfl | 1 => rfl | 2 => rfl | 3 => rfl | 4 => rfl | 5 => rfl | _ + 6 => rfl) ?_
              exact (ih m hm).2 d (f_X3_firstBroken b s x4 S) x2 x3 (x4 + (Int32.ofInt 1)) (g_X3_firstBroken b s x4 S) hD
            · have hD := hD.2 h9
              show u_P L xs m d m_X0_askRules 50 [(5, .int (f_X3_firstBroken b s x4 S)), (0, .ref 76), (1, .ref (s + 1)), (2, .int x2), (3, .int x3), (4, .int x4)] [] (g_X3_firstBroken b s x4 S) R _
              refine u_st rfl (fun _ => rfl) ?_
              refine u_st rfl (fun _ => rfl) ?_
              refine u_st rfl (fun _ => rfl) ?_
              refine u_st rfl (fun _ => rfl) ?_
              refine u_st rfl (fun _ => rfl) ?_
              refine u_st rfl (fun _ => rfl) ?_
              refine u_lc (b := [(0, .ref 76), (1, .ref (s + 1)), (2, .int (f_X3_firstBroken b s x4 S)), (3, .int x4), (4, .int (x4 + (Int32.ofInt 1))), (5, .int (f_X3_firstBroken b s x4 S))]) (show ([4, 3, 2, 5, 0, 1] : List Nat).Nodup by decide) (show ([0, 1, 2, 3, 4, 5] : List Nat).Nodup by decide) (fun i => match i with | 0 => rfl | 1 => rfl | 2 => rfl | 3 => rfl | 4 => rfl | 5 => rfl | _ + 6 => rfl) ?_
              exact (ih m hm).2 d (f_X3_firstBroken b s x4 S) (f_X3_firstBroken b s x4 S) x4 (x4 + (Int32.ofInt 1)) (g_X3_firstBroken b s x4 S) hD
set_option maxRecDepth 4000 in
theorem w_X0_askRules (L : Nat) (xs : Nat → Int32) {R : v_Rf} (hW : z_W R) {b : Nat} (hB : R 50 3 = some (b + 1)) (hb : z_cd b) (s : Nat) (hs : z_st s) (H9 : Int32 → Int32 → Int32 → v_Sf → Prop) (K : v_Sf → Prop) (k9 : ∀ (x2 : Int32) (x3 : Int32) (x4 : Int32) (S : v_Sf), H9 x2 x3 x4 S → D_X0_askRules_9 b s H9 K x2 x3 x4 S) (n d : Nat) (S : v_Sf) (hD : D_X0_askRules b s H9 K S) : u_P L xs n d m_X0_askRules 0 (lv_args 0 [.ref 76, .ref (s + 1)]) [] S R (z_V R K) := by
  unfold D_X0_askRules at hD
  show u_P L xs n d m_X0_askRules 0 [(0, .ref 76), (1, .ref (s + 1))] [] S R _
  refine u_st rfl (fun _ => rfl) ?_
  refine u_st rfl (fun _ => rfl) ?_
  refine u_st rfl (fun _ => rfl) ?_
  refine u_st rfl (fun _ => rfl) ?_
  refine u_st rfl (fun _ => rfl) ?_
  refine u_st rfl (fun _ => rfl) ?_
  refine u_lc (b := [(0, .ref 76), (1, .ref (s + 1)), (2, .int (Int32.ofInt (-2))), (3, .int (Int32.ofInt (-2))), (4, .int (Int32.ofInt 0))]) (show ([4, 3, 2, 0, 1] : List Nat).Nodup by decide) (show ([0, 1, 2, 3, 4] : List Nat).Nodup by decide) (fun i => match i with | 0 => rfl | 1 => rfl | 2 => rfl | 3 => rfl | 4 => rfl | _ + 5 => rfl) ?_
  exact (hd_X0_askRules L xs hW hB hb s hs H9 K k9 n).1 d (Int32.ofInt (-2)) (Int32.ofInt (-2)) (Int32.ofInt 0) S hD
noncomputable def r_X0_askRules_9 (b : Nat) (s : Nat) : Nat → Nat → Int32 → Int32 → v_Sf → v_Sf
  | 0, k9, x2, x3, S => (if x2 = (Int32.ofInt (-2)) then z_s S 75 5 ((S 75 5) + (Int32.ofInt 0)) else (if ¬ (S 75 5) = 0 then z_s S 75 5 ((S 75 5) + (Int32.ofInt 1)) else z_s (z_s (z_s S 75 6 x2) 75 7 x3) 75 5 ((S 75 5) + (Int32.ofInt 1))))
  | r + 1, k9, x2, x3, S => (if (f_X3_firstBroken b s (z_i k9) S) = (Int32.ofInt (-2)) then r_X0_askRules_9 b s r (k9 + 1) x2 x3 (g_X3_firstBroken b s (z_i k9) S) else (if x2 = (Int32.ofInt (-2)) then r_X0_askRules_9 b s r (k9 + 1) (f_X3_firstBroken b s (z_i k9) S) (z_i k9) (g_X3_firstBroken b s (z_i k9) S) else (if x2 ≤ (f_X3_firstBroken b s (z_i k9) S) then r_X0_askRules_9 b s r (k9 + 1) x2 x3 (g_X3_firstBroken b s (z_i k9) S) else r_X0_askRules_9 b s r (k9 + 1) (f_X3_firstBroken b s (z_i k9) S) (z_i k9) (g_X3_firstBroken b s (z_i k9) S))))
noncomputable def F_X0_askRules (b : Nat) (s : Nat) (S : v_Sf) : v_Sf := r_X0_askRules_9 b s (6 - 0) 0 (Int32.ofInt (-2)) (Int32.ofInt (-2)) S
noncomputable def g_X0_askRules (b : Nat) (s : Nat) (S : v_Sf) : v_Sf := F_X0_askRules b s S
theorem c_X0_askRules (L : Nat) (xs : Nat → Int32) (n d : Nat) {R : v_Rf} (hW : z_W R) {b : Nat} (hB : R 50 3 = some (b + 1)) (hb : z_cd b) (s : Nat) (hs : z_st s) (S : v_Sf) : u_P L xs n d m_X0_askRules 0 (lv_args 0 [.ref 76, .ref (s + 1)]) [] S R (z_V R (fun S1 => g_X0_askRules b s S = S1)) := by
  refine w_X0_askRules L xs hW hB hb s hs (fun y2 y3 y4 T => ∃ (k9 : Nat), k9 ≤ 6 ∧ z_i k9 = y4 ∧ r_X0_askRules_9 b s (6 - k9) k9 y2 y3 T = F_X0_askRules b s S) (fun S1 => g_X0_askRules b s S = S1) ?_ n d S ?_
  · rintro x2 x3 _ S1 ⟨k9, hkk, rfl, e⟩
    unfold D_X0_askRules_9
    rcases Nat.lt_or_ge k9 (6) with hk | hk
    · rw [show 6 - k9 = (6 - (k9 + 1)) + 1 by omega, r_X0_askRules_9] at e
      refine ⟨fun q1 => ?_, fun q1 => ?_⟩
      · exact absurd hk (Nat.not_lt.mpr (z_leB2 (B := 6) q1 (by decide) (by omega)))
      · refine ⟨fun q2 => ?_, fun q2 => ?_⟩
        · rw [if_pos q2] at e
          exact ⟨(k9 + 1), by omega, (z_i1 k9).symm, e⟩
        · refine ⟨fun q3 => ?_, fun q3 => ?_⟩
          · rw [if_neg q2, if_pos q3] at e
            exact ⟨(k9 + 1), by omega, (z_i1 k9).symm, e⟩
          · refine ⟨fun q4 => ?_, fun q4 => ?_⟩
            · rw [if_neg q2, if_neg q3, if_pos q4] at e
              exact ⟨(k9 + 1), by omega, (z_i1 k9).symm, e⟩
            · rw [if_neg q2, if_neg q3, if_neg q4] at e
              exact ⟨(k9 + 1), by omega, (z_i1 k9).symm, e⟩
    · rw [show 6 - k9 = 0 by omega, r_X0_askRules_9] at e
      refine ⟨fun q5 => ?_, fun q5 => ?_⟩
      · refine ⟨fun q6 => ?_, fun q6 => ?_⟩
        · rw [if_pos q6] at e
          exact e.symm
        · refine ⟨fun q7 => ?_, fun q7 => ?_⟩
          · rw [if_neg q6, if_pos q7] at e
            exact e.symm
          · rw [if_neg q6, if_neg q7] at e
            exact e.symm
      · exact absurd hk (Nat.not_le.mpr (z_ltB2 (B := 6) q5 (by decide) (by omega)))
  · unfold D_X0_askRules
    have e : r_X0_askRules_9 b s (6 - 0) 0 (Int32.ofInt (-2)) (Int32.ofInt (-2)) S = F_X0_askRules b s S := by rw [F_X0_askRules]
    exact ⟨0, by omega, rfl, e⟩
noncomputable abbrev m_X0_pass : g_M := (g_cn 0, yX0_pass, cX0_pass, 4, none, g_look2 ttX0_pass)
set_option maxRecDepth 20000 in
theorem mt_X0_pass : g_mt 3 = some m_X0_pass := rfl
noncomputable def D_X0_pass_7 (c : Nat) (b : Nat) (s : Nat) (H7 : Int32 → v_Sf → Prop) (H114 : Int32 → v_Sf → Prop) (K : v_Sf → Prop) (x2 : Int32) (S : v_Sf) : Prop := (((Int32.ofNat 6) ≤ x2 → H114 (Int32.ofInt 0) (g_X0_recover s (g_X0_quarrelAll c s (g_X0_breakToys c s S)))) ∧ (¬ ((Int32.ofNat 6) ≤ x2) → (0 ≤ x2.toInt → x2.toInt < 6 → (0 ≤ x2.toInt → x2.toInt < 6 → (0 ≤ x2.toInt → x2.toInt < 6 → (0 ≤ x2.toInt → x2.toInt < 6 → (0 ≤ x2.toInt → x2.toInt < 6 → (0 ≤ x2.toInt → x2.toInt < 6 → (((f_X7_works s (S ((33 + 2 * x2.toInt.toNat)) 4) (z_s S (s + 9) x2.toInt.toNat (f_X9_placeAfter ((33 + 2 * x2.toInt.toNat)) (S (s + 9) x2.toInt.toNat) S))) = 0 → H7 (x2 + (Int32.ofInt 1)) (z_s S (s + 9) x2.toInt.toNat (f_X9_placeAfter ((33 + 2 * x2.toInt.toNat)) (S (s + 9) x2.toInt.toNat) S))) ∧ (¬ ((f_X7_works s (S ((33 + 2 * x2.toInt.toNat)) 4) (z_s S (s + 9) x2.toInt.toNat (f_X9_placeAfter ((33 + 2 * x2.toInt.toNat)) (S (s + 9) x2.toInt.toNat) S))) = 0) → (0 ≤ x2.toInt → x2.toInt < 6 → H7 (x2 + (Int32.ofInt 1)) (g_X0_teach c s x2 (f_X9_lessonAt ((33 + 2 * x2.toInt.toNat)) (S (s + 9) x2.toInt.toNat) S) (g_X0_strengthen c s x2 (S ((33 + 2 * x2.toInt.toNat)) 3) (z_s S (s + 9) x2.toInt.toNat (f_X9_placeAfter ((33 + 2 * x2.toInt.toNat)) (S (s + 9) x2.toInt.toNat) S)))))))))))))))
noncomputable def D_X0_pass_114 (c : Nat) (b : Nat) (s : Nat) (H7 : Int32 → v_Sf → Prop) (H114 : Int32 → v_Sf → Prop) (K : v_Sf → Prop) (x2 : Int32) (S : v_Sf) : Prop := (((Int32.ofNat 6) ≤ x2 → K (z_s (g_X0_askRules b s S) s 11 (((g_X0_askRules b s S) s 11) + (Int32.ofInt 1)))) ∧ (¬ ((Int32.ofNat 6) ≤ x2) → (0 ≤ x2.toInt → x2.toInt < 6 → H114 (x2 + (Int32.ofInt 1)) (g_X0_sicken c s x2 (S ((33 + 2 * x2.toInt.toNat)) 4) S))))
noncomputable def D_X0_pass (c : Nat) (b : Nat) (s : Nat) (H7 : Int32 → v_Sf → Prop) (H114 : Int32 → v_Sf → Prop) (K : v_Sf → Prop) (S : v_Sf) : Prop := H7 (Int32.ofInt 0) (g_X0_weaken c s S)
set_option maxRecDepth 4000 in
theorem hd_X0_pass (L : Nat) (xs : Nat → Int32) {R : v_Rf} (hW : z_W R) {c : Nat} (hL : R 50 2 = some (c + 1)) (hc : z_cd c) {b : Nat} (hB : R 50 3 = some (b + 1)) (hb : z_cd b) (s : Nat) (hs : z_st s) (H7 : Int32 → v_Sf → Prop) (H114 : Int32 → v_Sf → Prop) (K : v_Sf → Prop) (k7 : ∀ (x2 : Int32) (S : v_Sf), H7 x2 S → D_X0_pass_7 c b s H7 H114 K x2 S) (k114 : ∀ (x2 : Int32) (S : v_Sf), H114 x2 S → D_X0_pass_114 c b s H7 H114 K x2 S) : ∀ n, (∀ (d : Nat) (x2 : Int32) (S : v_Sf), H7 x2 S → u_P L xs n d m_X0_pass 7 [(0, .ref 76), (1, .ref (s + 1)), (2, .int x2)] [] S R (z_V R K)) ∧ (∀ (d : Nat) (j3 : Int32) (x2 : Int32) (S : v_Sf), H7 x2 S → u_P L xs n d m_X0_pass 7 [(0, .ref 76), (1, .ref (s + 1)), (2, .int x2), (3, .int j3)] [] S R (z_V R K)) ∧ (∀ (d : Nat) (x2 : Int32) (S : v_Sf), H114 x2 S → u_P L xs n d m_X0_pass 114 [(0, .ref 76), (1, .ref (s + 1)), (2, .int x2)] [] S R (z_V R K)) ∧ (∀ (d : Nat) (j3 : Int32) (x2 : Int32) (S : v_Sf), H114 x2 S → u_P L xs n d m_X0_pass 114 [(0, .ref 76), (1, .ref (s + 1)), (2, .int x2), (3, .int j3)] [] S R (z_V R K)) := by
  intro n
  induction n using Nat.strongRecOn with
  | ind n ih =>
    refine ⟨?_, ?_, ?_, ?_⟩
    · intro d x2 S hD
      have hD := k7 x2 S hD
      unfold D_X0_pass_7 at hD
      show u_P L xs n d m_X0_pass 7 [(0, .ref 76), (1, .ref (s + 1)), (2, .int x2)] [] S R _
      refine u_st1 rfl (fun _ => rfl) (fun m hm => ?_)
      refine u_st rfl (fun _ => rfl) ?_
      show u_P L xs m d m_X0_pass 9 [(0, .ref 76), (1, .ref (s + 1)), (2, .int x2)] [.ref 76, .int x2] S R _
      refine u_getr rfl rfl rfl ?_
      show u_P L xs m d m_X0_pass 12 [(0, .ref 76), (1, .ref (s + 1)), (2, .int x2)] [.ref 33, .int x2] S R _
      refine u_alr rfl rfl ?_
      show u_P L xs m d m_X0_pass 13 [(0, .ref 76), (1, .ref (s + 1)), (2, .int x2)] [.int (Int32.ofNat 6), .int x2] S R _
      refine u_ic_ge rfl (fun h1 => ?_) (fun h1 => ?_)
      · have hD := hD.1 h1
        show u_P L xs m d m_X0_pass 97 [(0, .ref 76), (1, .ref (s + 1)), (2, .int x2)] [] S R _
        refine u_st rfl (fun _ => rfl) ?_
        refine u_st rfl (fun _ => rfl) ?_
        show u_P L xs m d m_X0_pass 99 [(0, .ref 76), (1, .ref (s + 1)), (2, .int x2)] [.ref (s + 1), .ref 76] S R _
        refine u_cv (rest := []) rfl (by decide) mt_X0_breakToys rfl rfl rfl rfl (Nat.le_of_ble_eq_true rfl) (Nat.le_of_ble_eq_true rfl) (Nat.le_of_ble_eq_true rfl) (fun d' => c_X0_breakToys L xs m d' hW hL hc s hs S) ?_
        rintro _ _ _ ⟨rfl, rfl, rfl⟩
        refine u_st rfl (fun _ => rfl) ?_
        refine u_st rfl (fun _ => rfl) ?_
        show u_P L xs m d m_X0_pass 104 [(0, .ref 76), (1, .ref (s + 1)), (2, .int x2)] [.ref (s + 1), .ref 76] (g_X0_breakToys c s S) R _
        refine u_cv (rest := []) rfl (by decide) mt_X0_quarrelAll rfl rfl rfl rfl (Nat.le_of_ble_eq_true rfl) (Nat.le_of_ble_eq_true rfl) (Nat.le_of_ble_eq_true rfl) (fun d' => c_X0_quarrelAll L xs m d' hW hL hc s hs (g_X0_breakToys c s S)) ?_
        rintro _ _ _ ⟨rfl, rfl, rfl⟩
        refine u_st rfl (fun _ => rfl) ?_
        refine u_st rfl (fun _ => rfl) ?_
        show u_P L xs m d m_X0_pass 109 [(0, .ref 76), (1, .ref (s + 1)), (2, .int x2)] [.ref (s + 1), .ref 76] (g_X0_quarrelAll c s (g_X0_breakToys c s S)) R _
        refine u_cv (rest := []) rfl (by decide) mt_X0_recover rfl rfl rfl rfl (Nat.le_of_ble_eq_true rfl) (Nat.le_of_ble_eq_true rfl) (Nat.le_of_ble_eq_true rfl) (fun d' => c_X0_recover L xs m d' s hs (g_X0_quarrelAll c s (g_X0_breakToys c s S)) R) ?_
        rintro _ _ _ ⟨rfl, rfl, rfl⟩
        refine u_st rfl (fun _ => rfl) ?_
        refine u_st rfl (fun _ => rfl) ?_
        refine u_lc (b := [(0, .ref 76), (1, .ref (s + 1)), (2, .int (Int32.ofInt 0))]) (show ([2, 0, 1] : List Nat).Nodup by decide) (show ([0, 1, 2] : List Nat).Nodup by decide) (fun i => match i with | 0 => rfl | 1 => rfl | 2 => rfl | _ + 3 => rfl) ?_
        exact (ih m hm).2.2.1 d (Int32.ofInt 0) (g_X0_recover s (g_X0_quarrelAll c s (g_X0_breakToys c s S))) hD
      · have hD := hD.2 h1
        show u_P L xs m d m_X0_pass 16 [(0, .ref 76), (1, .ref (s + 1)), (2, .int x2)] [] S R _
        refine u_st rfl (fun _ => rfl) ?_
        show u_P L xs m d m_X0_pass 17 [(0, .ref 76), (1, .ref (s + 1)), (2, .int x2)] [.ref 76] S R _
        refine u_getr rfl rfl rfl ?_
        refine u_st rfl (fun _ => rfl) ?_
        show u_P L xs m d m_X0_pass 21 [(0, .ref 76), (1, .ref (s + 1)), (2, .int x2)] [.int x2, .ref 33] S R _
        refine u_aald rfl rfl (fun b21 b22 => ?_)
        rw [hW _ (z_lt6 b21 b22)]
        have hD := hD b21 b22
        show u_P L xs m d m_X0_pass 22 [(0, .ref 76), (1, .ref (s + 1)), (2, .int x2)] [.ref (((33 + 2 * x2.toInt.toNat)) + 1)] S R _
        refine u_st rfl (fun _ => rfl) ?_
        show u_P L xs m d m_X0_pass 23 [(0, .ref 76), (1, .ref (s + 1)), (2, .int x2)] [.ref (s + 1), .ref (((33 + 2 * x2.toInt.toNat)) + 1)] S R _
        refine u_getr rfl (z_st0 hs) rfl ?_
        refine u_st rfl (fun _ => rfl) ?_
        show u_P L xs m d m_X0_pass 27 [(0, .ref 76), (1, .ref (s + 1)), (2, .int x2)] [.int x2, .ref (s + 10), .ref (((33 + 2 * x2.toInt.toNat)) + 1)] S R _
        refine u_ialdE (v := S (s + 9) x2.toInt.toNat) rfl (z_st9 hs) rfl (fun b31 b32 => ?_)
        have hD := hD b31 b32
        show u_P L xs m d m_X0_pass 28 [(0, .ref 76), (1, .ref (s + 1)), (2, .int x2)] [.int (S (s + 9) x2.toInt.toNat), .ref (((33 + 2 * x2.toInt.toNat)) + 1)] S R _
        refine u_cv (rest := []) rfl (by decide) mt_X9_lessonAt (z_wd0 (z_wdi b21 b22)) rfl rfl rfl (Nat.le_of_ble_eq_true rfl) (Nat.le_of_ble_eq_true rfl) (Nat.le_of_ble_eq_true rfl) (fun d' => c_X9_lessonAt L xs m d' ((33 + 2 * x2.toInt.toNat)) (z_wdi b21 b22) (S (s + 9) x2.toInt.toNat) S R) ?_
        rintro _ _ _ ⟨_, rfl, rfl, rfl, rfl⟩
        refine u_st rfl (fun _ => rfl) ?_
        refine u_st rfl (fun _ => rfl) ?_
        show u_P L xs m d m_X0_pass 33 [(3, .int (f_X9_lessonAt ((33 + 2 * x2.toInt.toNat)) (S (s + 9) x2.toInt.toNat) S)), (0, .ref 76), (1, .ref (s + 1)), (2, .int x2)] [.ref (s + 1)] S R _
        refine u_getr rfl (z_st0 hs) rfl ?_
        refine u_st rfl (fun _ => rfl) ?_
        refine u_st rfl (fun _ => rfl) ?_
        show u_P L xs m d m_X0_pass 38 [(3, .int (f_X9_lessonAt ((33 + 2 * x2.toInt.toNat)) (S (s + 9) x2.toInt.toNat) S)), (0, .ref 76), (1, .ref (s + 1)), (2, .int x2)] [.ref 76, .int x2, .ref (s + 10)] S R _
        refine u_getr rfl rfl rfl ?_
        refine u_st rfl (fun _ => rfl) ?_
        show u_P L xs m d m_X0_pass 42 [(3, .int (f_X9_lessonAt ((33 + 2 * x2.toInt.toNat)) (S (s + 9) x2.toInt.toNat) S)), (0, .ref 76), (1, .ref (s + 1)), (2, .int x2)] [.int x2, .ref 33, .int x2, .ref (s + 10)] S R _
        refine u_aald rfl rfl (fun b41 b42 => ?_)
        rw [hW _ (z_lt6 b41 b42)]
        have hD := hD b41 b42
        show u_P L xs m d m_X0_pass 43 [(3, .int (f_X9_lessonAt ((33 + 2 * x2.toInt.toNat)) (S (s + 9) x2.toInt.toNat) S)), (0, .ref 76), (1, .ref (s + 1)), (2, .int x2)] [.ref (((33 + 2 * x2.toInt.toNat)) + 1), .int x2, .ref (s + 10)] S R _
        refine u_st rfl (fun _ => rfl) ?_
        show u_P L xs m d m_X0_pass 44 [(3, .int (f_X9_lessonAt ((33 + 2 * x2.toInt.toNat)) (S (s + 9) x2.toInt.toNat) S)), (0, .ref 76), (1, .ref (s + 1)), (2, .int x2)] [.ref (s + 1), .ref (((33 + 2 * x2.toInt.toNat)) + 1), .int x2, .ref (s + 10)] S R _
        refine u_getr rfl (z_st0 hs) rfl ?_
        refine u_st rfl (fun _ => rfl) ?_
        show u_P L xs m d m_X0_pass 48 [(3, .int (f_X9_lessonAt ((33 + 2 * x2.toInt.toNat)) (S (s + 9) x2.toInt.toNat) S)), (0, .ref 76), (1, .ref (s + 1)), (2, .int x2)] [.int x2, .ref (s + 10), .ref (((33 + 2 * x2.toInt.toNat)) + 1), .int x2, .ref (s + 10)] S R _
        refine u_ialdE (v := S (s + 9) x2.toInt.toNat) rfl (z_st9 hs) rfl (fun b51 b52 => ?_)
        have hD := hD b51 b52
        show u_P L xs m d m_X0_pass 49 [(3, .int (f_X9_lessonAt ((33 + 2 * x2.toInt.toNat)) (S (s + 9) x2.toInt.toNat) S)), (0, .ref 76), (1, .ref (s + 1)), (2, .int x2)] [.int (S (s + 9) x2.toInt.toNat), .ref (((33 + 2 * x2.toInt.toNat)) + 1), .int x2, .ref (s + 10)] S R _
        refine u_cv (rest := [.int x2, .ref (s + 10)]) rfl (by decide) mt_X9_placeAfter (z_wd0 (z_wdi b41 b42)) rfl rfl rfl (Nat.le_of_ble_eq_true rfl) (Nat.le_of_ble_eq_true rfl) (Nat.le_of_ble_eq_true rfl) (fun d' => c_X9_placeAfter L xs m d' ((33 + 2 * x2.toInt.toNat)) (z_wdi b41 b42) (S (s + 9) x2.toInt.toNat) S R) ?_
        rintro _ _ _ ⟨_, rfl, rfl, rfl, rfl⟩
        show u_P L xs m d m_X0_pass 52 [(3, .int (f_X9_lessonAt ((33 + 2 * x2.toInt.toNat)) (S (s + 9) x2.toInt.toNat) S)), (0, .ref 76), (1, .ref (s + 1)), (2, .int x2)] [.int (f_X9_placeAfter ((33 + 2 * x2.toInt.toNat)) (S (s + 9) x2.toInt.toNat) S), .int x2, .ref (s + 10)] S R _
        refine u_iast rfl (z_st9 hs) (fun b61 b62 => ?_)
        have hD := hD b61 b62
        show u_P L xs m d m_X0_pass 53 [(3, .int (f_X9_lessonAt ((33 + 2 * x2.toInt.toNat)) (S (s + 9) x2.toInt.toNat) S)), (0, .ref 76), (1, .ref (s + 1)), (2, .int x2)] [] (z_s S (s + 9) x2.toInt.toNat (f_X9_placeAfter ((33 + 2 * x2.toInt.toNat)) (S (s + 9) x2.toInt.toNat) S)) R _
        refine u_st rfl (fun _ => rfl) ?_
        refine u_st rfl (fun _ => rfl) ?_
        show u_P L xs m d m_X0_pass 55 [(3, .int (f_X9_lessonAt ((33 + 2 * x2.toInt.toNat)) (S (s + 9) x2.toInt.toNat) S)), (0, .ref 76), (1, .ref (s + 1)), (2, .int x2)] [.ref 76, .ref (s + 1)] (z_s S (s + 9) x2.toInt.toNat (f_X9_placeAfter ((33 + 2 * x2.toInt.toNat)) (S (s + 9) x2.toInt.toNat) S)) R _
        refine u_getr rfl rfl rfl ?_
        refine u_st rfl (fun _ => rfl) ?_
        show u_P L xs m d m_X0_pass 59 [(3, .int (f_X9_lessonAt ((33 + 2 * x2.toInt.toNat)) (S (s + 9) x2.toInt.toNat) S)), (0, .ref 76), (1, .ref (s + 1)), (2, .int x2)] [.int x2, .ref 33, .ref (s + 1)] (z_s S (s + 9) x2.toInt.toNat (f_X9_placeAfter ((33 + 2 * x2.toInt.toNat)) (S (s + 9) x2.toInt.toNat) S)) R _
        refine u_aald rfl rfl (fun b71 b72 => ?_)
        rw [hW _ (z_lt6 b71 b72)]
        have hD := hD b71 b72
        show u_P L xs m d m_X0_pass 60 [(3, .int (f_X9_lessonAt ((33 + 2 * x2.toInt.toNat)) (S (s + 9) x2.toInt.toNat) S)), (0, .ref 76), (1, .ref (s + 1)), (2, .int x2)] [.ref (((33 + 2 * x2.toInt.toNat)) + 1), .ref (s + 1)] (z_s S (s + 9) x2.toInt.toNat (f_X9_placeAfter ((33 + 2 * x2.toInt.toNat)) (S (s + 9) x2.toInt.toNat) S)) R _
        refine u_getE (v := S ((33 + 2 * x2.toInt.toNat)) 4) rfl (z_wd0 (z_wdi b71 b72)) rfl (z_sn (fun h => absurd h.1 (by have := z_stl hs; have := z_wdl (z_wdi b71 b72); omega))) ?_
        show u_P L xs m d m_X0_pass 63 [(3, .int (f_X9_lessonAt ((33 + 2 * x2.toInt.toNat)) (S (s + 9) x2.toInt.toNat) S)), (0, .ref 76), (1, .ref (s + 1)), (2, .int x2)] [.int (S ((33 + 2 * x2.toInt.toNat)) 4), .ref (s + 1)] (z_s S (s + 9) x2.toInt.toNat (f_X9_placeAfter ((33 + 2 * x2.toInt.toNat)) (S (s + 9) x2.toInt.toNat) S)) R _
        refine u_cv (rest := []) rfl (by decide) mt_X7_works (z_st0 hs) rfl rfl rfl (Nat.le_of_ble_eq_true rfl) (Nat.le_of_ble_eq_true rfl) (Nat.le_of_ble_eq_true rfl) (fun d' => c_X7_works L xs m d' s hs (S ((33 + 2 * x2.toInt.toNat)) 4) (z_s S (s + 9) x2.toInt.toNat (f_X9_placeAfter ((33 + 2 * x2.toInt.toNat)) (S (s + 9) x2.toInt.toNat) S)) R) ?_
        rintro _ _ _ ⟨_, rfl, rfl, rfl, rfl⟩
        show u_P L xs m d m_X0_pass 66 [(3, .int (f_X9_lessonAt ((33 + 2 * x2.toInt.toNat)) (S (s + 9) x2.toInt.toNat) S)), (0, .ref 76), (1, .ref (s + 1)), (2, .int x2)] [.int (f_X7_works s (S ((33 + 2 * x2.toInt.toNat)) 4) (z_s S (s + 9) x2.toInt.toNat (f_X9_placeAfter ((33 + 2 * x2.toInt.toNat)) (S (s + 9) x2.toInt.toNat) S)))] (z_s S (s + 9) x2.toInt.toNat (f_X9_placeAfter ((33 + 2 * x2.toInt.toNat)) (S (s + 9) x2.toInt.toNat) S)) R _
        refine u_if_eq rfl (fun h8 => ?_) (fun h8 => ?_)
        · have hD := hD.1 h8
          show u_P L xs m d m_X0_pass 91 [(3, .int (f_X9_lessonAt ((33 + 2 * x2.toInt.toNat)) (S (s + 9) x2.toInt.toNat) S)), (0, .ref 76), (1, .ref (s + 1)), (2, .int x2)] [] (z_s S (s + 9) x2.toInt.toNat (f_X9_placeAfter ((33 + 2 * x2.toInt.toNat)) (S (s + 9) x2.toInt.toNat) S)) R _
          refine u_st rfl (fun _ => rfl) ?_
          refine u_st rfl (fun _ => rfl) ?_
          refine u_lc (b := [(0, .ref 76), (1, .ref (s + 1)), (2, .int (x2 + (Int32.ofInt 1))), (3, .int (f_X9_lessonAt ((33 + 2 * x2.toInt.toNat)) (S (s + 9) x2.toInt.toNat) S))]) (show ([2, 3, 0, 1] : List Nat).Nodup by decide) (show ([0, 1, 2, 3] : List Nat).Nodup by decide) (fun i => match i with | 0 => rfl | 1 => rfl | 2 => rfl | 3 => rfl | _ + 4 => rfl) ?_
          exact (ih m hm).2.1 d (f_X9_lessonAt ((33 + 2 * x2.toInt.toNat)) (S (s + 9) x2.toInt.toNat) S) (x2 + (Int32.ofInt 1)) (z_s S (s + 9) x2.toInt.toNat (f_X9_placeAfter ((33 + 2 * x2.toInt.toNat)) (S (s + 9) x2.toInt.toNat) S)) hD
        · have hD := hD.2 h8
          show u_P L xs m d m_X0_pass 69 [(3, .int (f_X9_lessonAt ((33 + 2 * x2.toInt.toNat)) (S (s + 9) x2.toInt.toNat) S)), (0, .ref 76), (1, .ref (s + 1)), (2, .int x2)] [] (z_s S (s + 9) x2.toInt.toNat (f_X9_placeAfter ((33 + 2 * x2.toInt.toNat)) (S (s + 9) x2.toInt.toNat) S)) R _
          refine u_st rfl (fun _ => rfl) ?_
          refine u_st rfl (fun _ => rfl) ?_
          refine u_st rfl (fun _ => rfl) ?_
          refine u_st rfl (fun _ => rfl) ?_
          show u_P L xs m d m_X0_pass 73 [(3, .int (f_X9_lessonAt ((33 + 2 * x2.toInt.toNat)) (S (s + 9) x2.toInt.toNat) S)), (0, .ref 76), (1, .ref (s + 1)), (2, .int x2)] [.ref 76, .int x2, .ref (s + 1), .ref 76] (z_s S (s + 9) x2.toInt.toNat (f_X9_placeAfter ((33 + 2 * x2.toInt.toNat)) (S (s + 9) x2.toInt.toNat) S)) R _
          refine u_getr rfl rfl rfl ?_
          refine u_st rfl (fun _ => rfl) ?_
          show u_P L xs m d m_X0_pass 77 [(3, .int (f_X9_lessonAt ((33 + 2 * x2.toInt.toNat)) (S (s + 9) x2.toInt.toNat) S)), (0, .ref 76), (1, .ref (s + 1)), (2, .int x2)] [.int x2, .ref 33, .int x2, .ref (s + 1), .ref 76] (z_s S (s + 9) x2.toInt.toNat (f_X9_placeAfter ((33 + 2 * x2.toInt.toNat)) (S (s + 9) x2.toInt.toNat) S)) R _
          refine u_aald rfl rfl (fun b91 b92 => ?_)
          rw [hW _ (z_lt6 b91 b92)]
          have hD := hD b91 b92
          show u_P L xs m d m_X0_pass 78 [(3, .int (f_X9_lessonAt ((33 + 2 * x2.toInt.toNat)) (S (s + 9) x2.toInt.toNat) S)), (0, .ref 76), (1, .ref (s + 1)), (2, .int x2)] [.ref (((33 + 2 * x2.toInt.toNat)) + 1), .int x2, .ref (s + 1), .ref 76] (z_s S (s + 9) x2.toInt.toNat (f_X9_placeAfter ((33 + 2 * x2.toInt.toNat)) (S (s + 9) x2.toInt.toNat) S)) R _
          refine u_getE (v := S ((33 + 2 * x2.toInt.toNat)) 3) rfl (z_wd0 (z_wdi b91 b92)) rfl (z_sn (fun h => absurd h.1 (by have := z_stl hs; have := z_wdl (z_wdi b91 b92); omega))) ?_
          show u_P L xs m d m_X0_pass 81 [(3, .int (f_X9_lessonAt ((33 + 2 * x2.toInt.toNat)) (S (s + 9) x2.toInt.toNat) S)), (0, .ref 76), (1, .ref (s + 1)), (2, .int x2)] [.int (S ((33 + 2 * x2.toInt.toNat)) 3), .int x2, .ref (s + 1), .ref 76] (z_s S (s + 9) x2.toInt.toNat (f_X9_placeAfter ((33 + 2 * x2.toInt.toNat)) (S (s + 9) x2.toInt.toNat) S)) R _
          refine u_cv (rest := []) rfl (by decide) mt_X0_strengthen rfl rfl rfl rfl (Nat.le_of_ble_eq_true rfl) (Nat.le_of_ble_eq_true rfl) (Nat.le_of_ble_eq_true rfl) (fun d' => c_X0_strengthen L xs m d' hW hL hc s hs x2 (S ((33 + 2 * x2.toInt.toNat)) 3) (z_s S (s + 9) x2.toInt.toNat (f_X9_placeAfter ((33 + 2 * x2.toInt.toNat)) (S (s + 9) x2.toInt.toNat) S))) ?_
          rintro _ _ _ ⟨rfl, rfl, rfl⟩
          refine u_st rfl (fun _ => rfl) ?_
          refine u_st rfl (fun _ => rfl) ?_
          refine u_st rfl (fun _ => rfl) ?_
          refine u_st rfl (fun _ => rfl) ?_
          show u_P L xs m d m_X0_pass 88 [(3, .int (f_X9_lessonAt ((33 + 2 * x2.toInt.toNat)) (S (s + 9) x2.toInt.toNat) S)), (0, .ref 76), (1, .ref (s + 1)), (2, .int x2)] [.int (f_X9_lessonAt ((33 + 2 * x2.toInt.toNat)) (S (s + 9) x2.toInt.toNat) S), .int x2, .ref (s + 1), .ref 76] (g_X0_strengthen c s x2 (S ((33 + 2 * x2.toInt.toNat)) 3) (z_s S (s + 9) x2.toInt.toNat (f_X9_placeAfter ((33 + 2 * x2.toInt.toNat)) (S (s + 9) x2.toInt.toNat) S))) R _
          refine u_cv (rest := []) rfl (by decide) mt_X0_teach rfl rfl rfl rfl (Nat.le_of_ble_eq_true rfl) (Nat.le_of_ble_eq_true rfl) (Nat.le_of_ble_eq_true rfl) (fun d' => c_X0_teach L xs m d' hW hL hc s hs x2 (f_X9_lessonAt ((33 + 2 * x2.toInt.toNat)) (S (s + 9) x2.toInt.toNat) S) (g_X0_strengthen c s x2 (S ((33 + 2 * x2.toInt.toNat)) 3) (z_s S (s + 9) x2.toInt.toNat (f_X9_placeAfter ((33 + 2 * x2.toInt.toNat)) (S (s + 9) x2.toInt.toNat) S)))) ?_
          rintro _ _ _ ⟨rfl, rfl, rfl⟩
          refine u_st rfl (fun _ => rfl) ?_
          refine u_st rfl (fun _ => rfl) ?_
          refine u_lc (b := [(0, .ref 76), (1, .ref (s + 1)), (2, .int (x2 + (Int32.ofInt 1))), (3, .int (f_X9_lessonAt ((33 + 2 * x2.toInt.toNat)) (S (s + 9) x2.toInt.toNat) S))]) (show ([2, 3, 0, 1] : List Nat).Nodup by decide) (show ([0, 1, 2, 3] : List Nat).Nodup by decide) (fun i => match i with | 0 => rfl | 1 => rfl | 2 => rfl | 3 => rfl | _ + 4 => rfl) ?_
          exact (ih m hm).2.1 d (f_X9_lessonAt ((33 + 2 * x2.toInt.toNat)) (S (s + 9) x2.toInt.toNat) S) (x2 + (Int32.ofInt 1)) (g_X0_teach c s x2 (f_X9_lessonAt ((33 + 2 * x2.toInt.toNat)) (S (s + 9) x2.toInt.toNat) S) (g_X0_strengthen c s x2 (S ((33 + 2 * x2.toInt.toNat)) 3) (z_s S (s + 9) x2.toInt.toNat (f_X9_placeAfter ((33 + 2 * x2.toInt.toNat)) (S (s + 9) x2.toInt.toNat) S)))) hD
    · intro d j3 x2 S hD
      have hD := k7 x2 S hD
      unfold D_X0_pass_7 at hD
      show u_P L xs n d m_X0_pass 7 [(0, .ref 76), (1, .ref (s + 1)), (2, .int x2), (3, .int j3)] [] S R _
      refine u_st1 rfl (fun _ => rfl) (fun m hm => ?_)
      refine u_st rfl (fun _ => rfl) ?_
      show u_P L xs m d m_X0_pass 9 [(0, .ref 76), (1, .ref (s + 1)), (2, .int x2), (3, .int j3)] [.ref 76, .int x2] S R _
      refine u_getr rfl rfl rfl ?_
      show u_P L xs m d m_X0_pass 12 [(0, .ref 76), (1, .ref (s + 1)), (2, .int x2), (3, .int j3)] [.ref 33, .int x2] S R _
      refine u_alr rfl rfl ?_
      show u_P L xs m d m_X0_pass 13 [(0, .ref 76), (1, .ref (s + 1)), (2, .int x2), (3, .int j3)] [.int (Int32.ofNat 6), .int x2] S R _
      refine u_ic_ge rfl (fun h1 => ?_) (fun h1 => ?_)
      · have hD := hD.1 h1
        show u_P L xs m d m_X0_pass 97 [(0, .ref 76), (1, .ref (s + 1)), (2, .int x2), (3, .int j3)] [] S R _
        refine u_st rfl (fun _ => rfl) ?_
        refine u_st rfl (fun _ => rfl) ?_
        show u_P L xs m d m_X0_pass 99 [(0, .ref 76), (1, .ref (s + 1)), (2, .int x2), (3, .int j3)] [.ref (s + 1), .ref 76] S R _
        refine u_cv (rest := []) rfl (by decide) mt_X0_breakToys rfl rfl rfl rfl (Nat.le_of_ble_eq_true rfl) (Nat.le_of_ble_eq_true rfl) (Nat.le_of_ble_eq_true rfl) (fun d' => c_X0_breakToys L xs m d' hW hL hc s hs S) ?_
        rintro _ _ _ ⟨rfl, rfl, rfl⟩
        refine u_st rfl (fun _ => rfl) ?_
        refine u_st rfl (fun _ => rfl) ?_
        show u_P L xs m d m_X0_pass 104 [(0, .ref 76), (1, .ref (s + 1)), (2, .int x2), (3, .int j3)] [.ref (s + 1), .ref 76] (g_X0_breakToys c s S) R _
        refine u_cv (rest := []) rfl (by decide) mt_X0_quarrelAll rfl rfl rfl rfl (Nat.le_of_ble_eq_true rfl) (Nat.le_of_ble_eq_true rfl) (Nat.le_of_ble_eq_true rfl) (fun d' => c_X0_quarrelAll L xs m d' hW hL hc s hs (g_X0_breakToys c s S)) ?_
        rintro _ _ _ ⟨rfl, rfl, rfl⟩
        refine u_st rfl (fun _ => rfl) ?_
        refine u_st rfl (fun _ => rfl) ?_
        show u_P L xs m d m_X0_pass 109 [(0, .ref 76), (1, .ref (s + 1)), (2, .int x2), (3, .int j3)] [.ref (s + 1), .ref 76] (g_X0_quarrelAll c s (g_X0_breakToys c s S)) R _
        refine u_cv (rest := []) rfl (by decide) mt_X0_recover rfl rfl rfl rfl (Nat.le_of_ble_eq_true rfl) (Nat.le_of_ble_eq_true rfl) (Nat.le_of_ble_eq_true rfl) (fun d' => c_X0_recover L xs m d' s hs (g_X0_quarrelAll c s (g_X0_breakToys c s S)) R) ?_
        rintro _ _ _ ⟨rfl, rfl, rfl⟩
        refine u_st rfl (fun _ => rfl) ?_
        refine u_st rfl (fun _ => rfl) ?_
        refine u_lc (b := [(0, .ref 76), (1, .ref (s + 1)), (2, .int (Int32.ofInt 0)), (3, .int j3)]) (show ([2, 0, 1, 3] : List Nat).Nodup by decide) (show ([0, 1, 2, 3] : List Nat).Nodup by decide) (fun i => match i with | 0 => rfl | 1 => rfl | 2 => rfl | 3 => rfl | _ + 4 => rfl) ?_
        exact (ih m hm).2.2.2 d j3 (Int32.ofInt 0) (g_X0_recover s (g_X0_quarrelAll c s (g_X0_breakToys c s S))) hD
      · have hD := hD.2 h1
        show u_P L xs m d m_X0_pass 16 [(0, .ref 76), (1, .ref (s + 1)), (2, .int x2), (3, .int j3)] [] S R _
        refine u_st rfl (fun _ => rfl) ?_
        show u_P L xs m d m_X0_pass 17 [(0, .ref 76), (1, .ref (s + 1)), (2, .int x2), (3, .int j3)] [.ref 76] S R _
        refine u_getr rfl rfl rfl ?_
        refine u_st rfl (fun _ => rfl) ?_
        show u_P L xs m d m_X0_pass 21 [(0, .ref 76), (1, .ref (s + 1)), (2, .int x2), (3, .int j3)] [.int x2, .ref 33] S R _
        refine u_aald rfl rfl (fun b21 b22 => ?_)
        rw [hW _ (z_lt6 b21 b22)]
        have hD := hD b21 b22
        show u_P L xs m d m_X0_pass 22 [(0, .ref 76), (1, .ref (s + 1)), (2, .int x2), (3, .int j3)] [.ref (((33 + 2 * x2.toInt.toNat)) + 1)] S R _
        refine u_st rfl (fun _ => rfl) ?_
        show u_P L xs m d m_X0_pass 23 [(0, .ref 76), (1, .ref (s + 1)), (2, .int x2), (3, .int j3)] [.ref (s + 1), .ref (((33 + 2 * x2.toInt.toNat)) + 1)] S R _
        refine u_getr rfl (z_st0 hs) rfl ?_
        refine u_st rfl (fun _ => rfl) ?_
        show u_P L xs m d m_X0_pass 27 [(0, .ref 76), (1, .ref (s + 1)), (2, .int x2), (3, .int j3)] [.int x2, .ref (s + 10), .ref (((33 + 2 * x2.toInt.toNat)) + 1)] S R _
        refine u_ialdE (v := S (s + 9) x2.toInt.toNat) rfl (z_st9 hs) rfl (fun b31 b32 => ?_)
        have hD := hD b31 b32
        show u_P L xs m d m_X0_pass 28 [(0, .ref 76), (1, .ref (s + 1)), (2, .int x2), (3, .int j3)] [.int (S (s + 9) x2.toInt.toNat), .ref (((33 + 2 * x2.toInt.toNat)) + 1)] S R _
        refine u_cv (rest := []) rfl (by decide) mt_X9_lessonAt (z_wd0 (z_wdi b21 b22)) rfl rfl rfl (Nat.le_of_ble_eq_true rfl) (Nat.le_of_ble_eq_true rfl) (Nat.le_of_ble_eq_true rfl) (fun d' => c_X9_lessonAt L xs m d' ((33 + 2 * x2.toInt.toNat)) (z_wdi b21 b22) (S (s + 9) x2.toInt.toNat) S R) ?_
        rintro _ _ _ ⟨_, rfl, rfl, rfl, rfl⟩
        refine u_st rfl (fun _ => rfl) ?_
        refine u_st rfl (fun _ => rfl) ?_
        show u_P L xs m d m_X0_pass 33 [(3, .int (f_X9_lessonAt ((33 + 2 * x2.toInt.toNat)) (S (s + 9) x2.toInt.toNat) S)), (0, .ref 76), (1, .ref (s + 1)), (2, .int x2)] [.ref (s + 1)] S R _
        refine u_getr rfl (z_st0 hs) rfl ?_
        refine u_st rfl (fun _ => rfl) ?_
        refine u_st rfl (fun _ => rfl) ?_
        show u_P L xs m d m_X0_pass 38 [(3, .int (f_X9_lessonAt ((33 + 2 * x2.toInt.toNat)) (S (s + 9) x2.toInt.toNat) S)), (0, .ref 76), (1, .ref (s + 1)), (2, .int x2)] [.ref 76, .int x2, .ref (s + 10)] S R _
        refine u_getr rfl rfl rfl ?_
        refine u_st rfl (fun _ => rfl) ?_
        show u_P L xs m d m_X0_pass 42 [(3, .int (f_X9_lessonAt ((33 + 2 * x2.toInt.toNat)) (S (s + 9) x2.toInt.toNat) S)), (0, .ref 76), (1, .ref (s + 1)), (2, .int x2)] [.int x2, .ref 33, .int x2, .ref (s + 10)] S R _
        refine u_aald rfl rfl (fun b41 b42 => ?_)
        rw [hW _ (z_lt6 b41 b42)]
        have hD := hD b41 b42
        show u_P L xs m d m_X0_pass 43 [(3, .int (f_X9_lessonAt ((33 + 2 * x2.toInt.toNat)) (S (s + 9) x2.toInt.toNat) S)), (0, .ref 76), (1, .ref (s + 1)), (2, .int x2)] [.ref (((33 + 2 * x2.toInt.toNat)) + 1), .int x2, .ref (s + 10)] S R _
        refine u_st rfl (fun _ => rfl) ?_
        show u_P L xs m d m_X0_pass 44 [(3, .int (f_X9_lessonAt ((33 + 2 * x2.toInt.toNat)) (S (s + 9) x2.toInt.toNat) S)), (0, .ref 76), (1, .ref (s + 1)), (2, .int x2)] [.ref (s + 1), .ref (((33 + 2 * x2.toInt.toNat)) + 1), .int x2, .ref (s + 10)] S R _
        refine u_getr rfl (z_st0 hs) rfl ?_
        refine u_st rfl (fun _ => rfl) ?_
        show u_P L xs m d m_X0_pass 48 [(3, .int (f_X9_lessonAt ((33 + 2 * x2.toInt.toNat)) (S (s + 9) x2.toInt.toNat) S)), (0, .ref 76), (1, .ref (s + 1)), (2, .int x2)] [.int x2, .ref (s + 10), .ref (((33 + 2 * x2.toInt.toNat)) + 1), .int x2, .ref (s + 10)] S R _
        refine u_ialdE (v := S (s + 9) x2.toInt.toNat) rfl (z_st9 hs) rfl (fun b51 b52 => ?_)
        have hD := hD b51 b52
        show u_P L xs m d m_X0_pass 49 [(3, .int (f_X9_lessonAt ((33 + 2 * x2.toInt.toNat)) (S (s + 9) x2.toInt.toNat) S)), (0, .ref 76), (1, .ref (s + 1)), (2, .int x2)] [.int (S (s + 9) x2.toInt.toNat), .ref (((33 + 2 * x2.toInt.toNat)) + 1), .int x2, .ref (s + 10)] S R _
        refine u_cv (rest := [.int x2, .ref (s + 10)]) rfl (by decide) mt_X9_placeAfter (z_wd0 (z_wdi b41 b42)) rfl rfl rfl (Nat.le_of_ble_eq_true rfl) (Nat.le_of_ble_eq_true rfl) (Nat.le_of_ble_eq_true rfl) (fun d' => c_X9_placeAfter L xs m d' ((33 + 2 * x2.toInt.toNat)) (z_wdi b41 b42) (S (s + 9) x2.toInt.toNat) S R) ?_
        rintro _ _ _ ⟨_, rfl, rfl, rfl, rfl⟩
        show u_P L xs m d m_X0_pass 52 [(3, .int (f_X9_lessonAt ((33 + 2 * x2.toInt.toNat)) (S (s + 9) x2.toInt.toNat) S)), (0, .ref 76), (1, .ref (s + 1)), (2, .int x2)] [.int (f_X9_placeAfter ((33 + 2 * x2.toInt.toNat)) (S (s + 9) x2.toInt.toNat) S), .int x2, .ref (s + 10)] S R _
        refine u_iast rfl (z_st9 hs) (fun b61 b62 => ?_)
        have hD := hD b61 b62
        show u_P L xs m d m_X0_pass 53 [(3, .int (f_X9_lessonAt ((33 + 2 * x2.toInt.toNat)) (S (s + 9) x2.toInt.toNat) S)), (0, .ref 76), (1, .ref (s + 1)), (2, .int x2)] [] (z_s S (s + 9) x2.toInt.toNat (f_X9_placeAfter ((33 + 2 * x2.toInt.toNat)) (S (s + 9) x2.toInt.toNat) S)) R _
        refine u_st rfl (fun _ => rfl) ?_
        refine u_st rfl (fun _ => rfl) ?_
        show u_P L xs m d m_X0_pass 55 [(3, .int (f_X9_lessonAt ((33 + 2 * x2.toInt.toNat)) (S (s + 9) x2.toInt.toNat) S)), (0, .ref 76), (1, .ref (s + 1)), (2, .int x2)] [.ref 76, .ref (s + 1)] (z_s S (s + 9) x2.toInt.toNat (f_X9_placeAfter ((33 + 2 * x2.toInt.toNat)) (S (s + 9) x2.toInt.toNat) S)) R _
        refine u_getr rfl rfl rfl ?_
        refine u_st rfl (fun _ => rfl) ?_
        show u_P L xs m d m_X0_pass 59 [(3, .int (f_X9_lessonAt ((33 + 2 * x2.toInt.toNat)) (S (s + 9) x2.toInt.toNat) S)), (0, .ref 76), (1, .ref (s + 1)), (2, .int x2)] [.int x2, .ref 33, .ref (s + 1)] (z_s S (s + 9) x2.toInt.toNat (f_X9_placeAfter ((33 + 2 * x2.toInt.toNat)) (S (s + 9) x2.toInt.toNat) S)) R _
        refine u_aald rfl rfl (fun b71 b72 => ?_)
        rw [hW _ (z_lt6 b71 b72)]
        have hD := hD b71 b72
        show u_P L xs m d m_X0_pass 60 [(3, .int (f_X9_lessonAt ((33 + 2 * x2.toInt.toNat)) (S (s + 9) x2.toInt.toNat) S)), (0, .ref 76), (1, .ref (s + 1)), (2, .int x2)] [.ref (((33 + 2 * x2.toInt.toNat)) + 1), .ref (s + 1)] (z_s S (s + 9) x2.toInt.toNat (f_X9_placeAfter ((33 + 2 * x2.toInt.toNat)) (S (s + 9) x2.toInt.toNat) S)) R _
        refine u_getE (v := S ((33 + 2 * x2.toInt.toNat)) 4) rfl (z_wd0 (z_wdi b71 b72)) rfl (z_sn (fun h => absurd h.1 (by have := z_stl hs; have := z_wdl (z_wdi b71 b72); omega))) ?_
        show u_P L xs m d m_X0_pass 63 [(3, .int (f_X9_lessonAt ((33 + 2 * x2.toInt.toNat)) (S (s + 9) x2.toInt.toNat) S)), (0, .ref 76), (1, .ref (s + 1)), (2, .int x2)] [.int (S ((33 + 2 * x2.toInt.toNat)) 4), .ref (s + 1)] (z_s S (s + 9) x2.toInt.toNat (f_X9_placeAfter ((33 + 2 * x2.toInt.toNat)) (S (s + 9) x2.toInt.toNat) S)) R _
        refine u_cv (rest := []) rfl (by decide) mt_X7_works (z_st0 hs) rfl rfl rfl (Nat.le_of_ble_eq_true rfl) (Nat.le_of_ble_eq_true rfl) (Nat.le_of_ble_eq_true rfl) (fun d' => c_X7_works L xs m d' s hs (S ((33 + 2 * x2.toInt.toNat)) 4) (z_s S (s + 9) x2.toInt.toNat (f_X9_placeAfter ((33 + 2 * x2.toInt.toNat)) (S (s + 9) x2.toInt.toNat) S)) R) ?_
        rintro _ _ _ ⟨_, rfl, rfl, rfl, rfl⟩
        show u_P L xs m d m_X0_pass 66 [(3, .int (f_X9_lessonAt ((33 + 2 * x2.toInt.toNat)) (S (s + 9) x2.toInt.toNat) S)), (0, .ref 76), (1, .ref (s + 1)), (2, .int x2)] [.int (f_X7_works s (S ((33 + 2 * x2.toInt.toNat)) 4) (z_s S (s + 9) x2.toInt.toNat (f_X9_placeAfter ((33 + 2 * x2.toInt.toNat)) (S (s + 9) x2.toInt.toNat) S)))] (z_s S (s + 9) x2.toInt.toNat (f_X9_placeAfter ((33 + 2 * x2.toInt.toNat)) (S (s + 9) x2.toInt.toNat) S)) R _
        refine u_if_eq rfl (fun h8 => ?_) (fun h8 => ?_)
        · have hD := hD.1 h8
          show u_P L xs m d m_X0_pass 91 [(3, .int (f_X9_lessonAt ((33 + 2 * x2.toInt.toNat)) (S (s + 9) x2.toInt.toNat) S)), (0, .ref 76), (1, .ref (s + 1)), (2, .int x2)] [] (z_s S (s + 9) x2.toInt.toNat (f_X9_placeAfter ((33 + 2 * x2.toInt.toNat)) (S (s + 9) x2.toInt.toNat) S)) R _
          refine u_st rfl (fun _ => rfl) ?_
          refine u_st rfl (fun _ => rfl) ?_
          refine u_lc (b := [(0, .ref 76), (1, .ref (s + 1)), (2, .int (x2 + (Int32.ofInt 1))), (3, .int (f_X9_lessonAt ((33 + 2 * x2.toInt.toNat)) (S (s + 9) x2.toInt.toNat) S))]) (show ([2, 3, 0, 1] : List Nat).Nodup by decide) (show ([0, 1, 2, 3] : List Nat).Nodup by decide) (fun i => match i with | 0 => rfl | 1 => rfl | 2 => rfl | 3 => rfl | _ + 4 => rfl) ?_
          exact (ih m hm).2.1 d (f_X9_lessonAt ((33 + 2 * x2.toInt.toNat)) (S (s + 9) x2.toInt.toNat) S) (x2 + (Int32.ofInt 1)) (z_s S (s + 9) x2.toInt.toNat (f_X9_placeAfter ((33 + 2 * x2.toInt.toNat)) (S (s + 9) x2.toInt.toNat) S)) hD
        · have hD := hD.2 h8
          show u_P L xs m d m_X0_pass 69 [(3, .int (f_X9_lessonAt ((33 + 2 * x2.toInt.toNat)) (S (s + 9) x2.toInt.toNat) S)), (0, .ref 76), (1, .ref (s + 1)), (2, .int x2)] [] (z_s S (s + 9) x2.toInt.toNat (f_X9_placeAfter ((33 + 2 * x2.toInt.toNat)) (S (s + 9) x2.toInt.toNat) S)) R _
          refine u_st rfl (fun _ => rfl) ?_
          refine u_st rfl (fun _ => rfl) ?_
          refine u_st rfl (fun _ => rfl) ?_
          refine u_st rfl (fun _ => rfl) ?_
          show u_P L xs m d m_X0_pass 73 [(3, .int (f_X9_lessonAt ((33 + 2 * x2.toInt.toNat)) (S (s + 9) x2.toInt.toNat) S)), (0, .ref 76), (1, .ref (s + 1)), (2, .int x2)] [.ref 76, .int x2, .ref (s + 1), .ref 76] (z_s S (s + 9) x2.toInt.toNat (f_X9_placeAfter ((33 + 2 * x2.toInt.toNat)) (S (s + 9) x2.toInt.toNat) S)) R _
          refine u_getr rfl rfl rfl ?_
          refine u_st rfl (fun _ => rfl) ?_
          show u_P L xs m d m_X0_pass 77 [(3, .int (f_X9_lessonAt ((33 + 2 * x2.toInt.toNat)) (S (s + 9) x2.toInt.toNat) S)), (0, .ref 76), (1, .ref (s + 1)), (2, .int x2)] [.int x2, .ref 33, .int x2, .ref (s + 1), .ref 76] (z_s S (s + 9) x2.toInt.toNat (f_X9_placeAfter ((33 + 2 * x2.toInt.toNat)) (S (s + 9) x2.toInt.toNat) S)) R _
          refine u_aald rfl rfl (fun b91 b92 => ?_)
          rw [hW _ (z_lt6 b91 b92)]
          have hD := hD b91 b92
          show u_P L xs m d m_X0_pass 78 [(3, .int (f_X9_lessonAt ((33 + 2 * x2.toInt.toNat)) (S (s + 9) x2.toInt.toNat) S)), (0, .ref 76), (1, .ref (s + 1)), (2, .int x2)] [.ref (((33 + 2 * x2.toInt.toNat)) + 1), .int x2, .ref (s + 1), .ref 76] (z_s S (s + 9) x2.toInt.toNat (f_X9_placeAfter ((33 + 2 * x2.toInt.toNat)) (S (s + 9) x2.toInt.toNat) S)) R _
          refine u_getE (v := S ((33 + 2 * x2.toInt.toNat)) 3) rfl (z_wd0 (z_wdi b91 b92)) rfl (z_sn (fun h => absurd h.1 (by have := z_stl hs; have := z_wdl (z_wdi b91 b92); omega))) ?_
          show u_P L xs m d m_X0_pass 81 [(3, .int (f_X9_lessonAt ((33 + 2 * x2.toInt.toNat)) (S (s + 9) x2.toInt.toNat) S)), (0, .ref 76), (1, .ref (s + 1)), (2, .int x2)] [.int (S ((33 + 2 * x2.toInt.toNat)) 3), .int x2, .ref (s + 1), .ref 76] (z_s S (s + 9) x2.toInt.toNat (f_X9_placeAfter ((33 + 2 * x2.toInt.toNat)) (S (s + 9) x2.toInt.toNat) S)) R _
          refine u_cv (rest := []) rfl (by decide) mt_X0_strengthen rfl rfl rfl rfl (Nat.le_of_ble_eq_true rfl) (Nat.le_of_ble_eq_true rfl) (Nat.le_of_ble_eq_true rfl) (fun d' => c_X0_strengthen L xs m d' hW hL hc s hs x2 (S ((33 + 2 * x2.toInt.toNat)) 3) (z_s S (s + 9) x2.toInt.toNat (f_X9_placeAfter ((33 + 2 * x2.toInt.toNat)) (S (s + 9) x2.toInt.toNat) S))) ?_
          rintro _ _ _ ⟨rfl, rfl, rfl⟩
          refine u_st rfl (fun _ => rfl) ?_
          refine u_st rfl (fun _ => rfl) ?_
          refine u_st rfl (fun _ => rfl) ?_
          refine u_st rfl (fun _ => rfl) ?_
          show u_P L xs m d m_X0_pass 88 [(3, .int (f_X9_lessonAt ((33 + 2 * x2.toInt.toNat)) (S (s + 9) x2.toInt.toNat) S)), (0, .ref 76), (1, .ref (s + 1)), (2, .int x2)] [.int (f_X9_lessonAt ((33 + 2 * x2.toInt.toNat)) (S (s + 9) x2.toInt.toNat) S), .int x2, .ref (s + 1), .ref 76] (g_X0_strengthen c s x2 (S ((33 + 2 * x2.toInt.toNat)) 3) (z_s S (s + 9) x2.toInt.toNat (f_X9_placeAfter ((33 + 2 * x2.toInt.toNat)) (S (s + 9) x2.toInt.toNat) S))) R _
          refine u_cv (rest := []) rfl (by decide) mt_X0_teach rfl rfl rfl rfl (Nat.le_of_ble_eq_true rfl) (Nat.le_of_ble_eq_true rfl) (Nat.le_of_ble_eq_true rfl) (fun d' => c_X0_teach L xs m d' hW hL hc s hs x2 (f_X9_lessonAt ((33 + 2 * x2.toInt.toNat)) (S (s + 9) x2.toInt.toNat) S) (g_X0_strengthen c s x2 (S ((33 + 2 * x2.toInt.toNat)) 3) (z_s S (s + 9) x2.toInt.toNat (f_X9_placeAfter ((33 + 2 * x2.toInt.toNat)) (S (s + 9) x2.toInt.toNat) S)))) ?_
          rintro _ _ _ ⟨rfl, rfl, rfl⟩
          refine u_st rfl (fun _ => rfl) ?_
          refine u_st rfl (fun _ => rfl) ?_
          refine u_lc (b := [(0, .ref 76), (1, .ref (s + 1)), (2, .int (x2 + (Int32.ofInt 1))), (3, .int (f_X9_lessonAt ((33 + 2 * x2.toInt.toNat)) (S (s + 9) x2.toInt.toNat) S))]) (show ([2, 3, 0, 1] : List Nat).Nodup by decide) (show ([0, 1, 2, 3] : List Nat).Nodup by decide) (fun i => match i with | 0 => rfl | 1 => rfl | 2 => rfl | 3 => rfl | _ + 4 => rfl) ?_
          exact (ih m hm).2.1 d (f_X9_lessonAt ((33 + 2 * x2.toInt.toNat)) (S (s + 9) x2.toInt.toNat) S) (x2 + (Int32.ofInt 1)) (g_X0_teach c s x2 (f_X9_lessonAt ((33 + 2 * x2.toInt.toNat)) (S (s + 9) x2.toInt.toNat) S) (g_X0_strengthen c s x2 (S ((33 + 2 * x2.toInt.toNat)) 3) (z_s S (s + 9) x2.toInt.toNat (f_X9_placeAfter ((33 + 2 * x2.toInt.toNat)) (S (s + 9) x2.toInt.toNat) S)))) hD
    · intro d x2 S hD
      have hD := k114 x2 S hD
      unfold D_X0_pass_114 at hD
      show u_P L xs n d m_X0_pass 114 [(0, .ref 76), (1, .ref (s + 1)), (2, .int x2)] [] S R _
      refine u_st1 rfl (fun _ => rfl) (fun m hm => ?_)
      refine u_st rfl (fun _ => rfl) ?_
      show u_P L xs m d m_X0_pass 116 [(0, .ref 76), (1, .ref (s + 1)), (2, .int x2)] [.ref 76, .int x2] S R _
      refine u_getr rfl rfl rfl ?_
      show u_P L xs m d m_X0_pass 119 [(0, .ref 76), (1, .ref (s + 1)), (2, .int x2)] [.ref 33, .int x2] S R _
      refine u_alr rfl rfl ?_
      show u_P L xs m d m_X0_pass 120 [(0, .ref 76), (1, .ref (s + 1)), (2, .int x2)] [.int (Int32.ofNat 6), .int x2] S R _
      refine u_ic_ge rfl (fun h1 => ?_) (fun h1 => ?_)
      · have hD := hD.1 h1
        show u_P L xs m d m_X0_pass 144 [(0, .ref 76), (1, .ref (s + 1)), (2, .int x2)] [] S R _
        refine u_st rfl (fun _ => rfl) ?_
        refine u_st rfl (fun _ => rfl) ?_
        show u_P L xs m d m_X0_pass 146 [(0, .ref 76), (1, .ref (s + 1)), (2, .int x2)] [.ref (s + 1), .ref 76] S R _
        refine u_cv (rest := []) rfl (by decide) mt_X0_askRules rfl rfl rfl rfl (Nat.le_of_ble_eq_true rfl) (Nat.le_of_ble_eq_true rfl) (Nat.le_of_ble_eq_true rfl) (fun d' => c_X0_askRules L xs m d' hW hB hb s hs S) ?_
        rintro _ _ _ ⟨rfl, rfl, rfl⟩
        refine u_st rfl (fun _ => rfl) ?_
        refine u_st rfl (fun _ => rfl) ?_
        show u_P L xs m d m_X0_pass 151 [(0, .ref 76), (1, .ref (s + 1)), (2, .int x2)] [.ref (s + 1), .ref (s + 1)] (g_X0_askRules b s S) R _
        refine u_getE (v := (g_X0_askRules b s S) s 11) rfl (z_st0 hs) rfl rfl ?_
        refine u_st rfl (fun _ => rfl) ?_
        refine u_st rfl (fun _ => rfl) ?_
        show u_P L xs m d m_X0_pass 156 [(0, .ref 76), (1, .ref (s + 1)), (2, .int x2)] [.int (((g_X0_askRules b s S) s 11) + (Int32.ofInt 1)), .ref (s + 1)] (g_X0_askRules b s S) R _
        refine u_put rfl (z_st0 hs) rfl ?_
        show u_P L xs m d m_X0_pass 159 [(0, .ref 76), (1, .ref (s + 1)), (2, .int x2)] [] (z_s (g_X0_askRules b s S) s 11 (((g_X0_askRules b s S) s 11) + (Int32.ofInt 1))) R _
        exact u_ret rfl rfl ⟨rfl, rfl, hD⟩
      · have hD := hD.2 h1
        show u_P L xs m d m_X0_pass 123 [(0, .ref 76), (1, .ref (s + 1)), (2, .int x2)] [] S R _
        refine u_st rfl (fun _ => rfl) ?_
        refine u_st rfl (fun _ => rfl) ?_
        refine u_st rfl (fun _ => rfl) ?_
        refine u_st rfl (fun _ => rfl) ?_
        show u_P L xs m d m_X0_pass 127 [(0, .ref 76), (1, .ref (s + 1)), (2, .int x2)] [.ref 76, .int x2, .ref (s + 1), .ref 76] S R _
        refine u_getr rfl rfl rfl ?_
        refine u_st rfl (fun _ => rfl) ?_
        show u_P L xs m d m_X0_pass 131 [(0, .ref 76), (1, .ref (s + 1)), (2, .int x2)] [.int x2, .ref 33, .int x2, .ref (s + 1), .ref 76] S R _
        refine u_aald rfl rfl (fun b21 b22 => ?_)
        rw [hW _ (z_lt6 b21 b22)]
        have hD := hD b21 b22
        show u_P L xs m d m_X0_pass 132 [(0, .ref 76), (1, .ref (s + 1)), (2, .int x2)] [.ref (((33 + 2 * x2.toInt.toNat)) + 1), .int x2, .ref (s + 1), .ref 76] S R _
        refine u_getE (v := S ((33 + 2 * x2.toInt.toNat)) 4) rfl (z_wd0 (z_wdi b21 b22)) rfl rfl ?_
        show u_P L xs m d m_X0_pass 135 [(0, .ref 76), (1, .ref (s + 1)), (2, .int x2)] [.int (S ((33 + 2 * x2.toInt.toNat)) 4), .int x2, .ref (s + 1), .ref 76] S R _
        refine u_cv (rest := []) rfl (by decide) mt_X0_sicken rfl rfl rfl rfl (Nat.le_of_ble_eq_true rfl) (Nat.le_of_ble_eq_true rfl) (Nat.le_of_ble_eq_true rfl) (fun d' => c_X0_sicken L xs m d' hW hL hc s hs x2 (S ((33 + 2 * x2.toInt.toNat)) 4) S) ?_
        rintro _ _ _ ⟨rfl, rfl, rfl⟩
        refine u_st rfl (fun _ => rfl) ?_
        refine u_st rfl (fun _ => rfl) ?_
        refine u_lc (b := [(0, .ref 76), (1, .ref (s + 1)), (2, .int (x2 + (Int32.ofInt 1)))]) (show ([2, 0, 1] : List Nat).Nodup by decide) (show ([0, 1, 2] : List Nat).Nodup by decide) (fun i => match i with | 0 => rfl | 1 => rfl | 2 => rfl | _ + 3 => rfl) ?_
        exact (ih m hm).2.2.1 d (x2 + (Int32.ofInt 1)) (g_X0_sicken c s x2 (S ((33 + 2 * x2.toInt.toNat)) 4) S) hD
    · intro d j3 x2 S hD
      have hD := k114 x2 S hD
      unfold D_X0_pass_114 at hD
      show u_P L xs n d m_X0_pass 114 [(0, .ref 76), (1, .ref (s + 1)), (2, .int x2), (3, .int j3)] [] S R _
      refine u_st1 rfl (fun _ => rfl) (fun m hm => ?_)
      refine u_st rfl (fun _ => rfl) ?_
      show u_P L xs m d m_X0_pass 116 [(0, .ref 76), (1, .ref (s + 1)), (2, .int x2), (3, .int j3)] [.ref 76, .int x2] S R _
      refine u_getr rfl rfl rfl ?_
      show u_P L xs m d m_X0_pass 119 [(0, .ref 76), (1, .ref (s + 1)), (2, .int x2), (3, .int j3)] [.ref 33, .int x2] S R _
      refine u_alr rfl rfl ?_
      show u_P L xs m d m_X0_pass 120 [(0, .ref 76), (1, .ref (s + 1)), (2, .int x2), (3, .int j3)] [.int (Int32.ofNat 6), .int x2] S R _
      refine u_ic_ge rfl (fun h1 => ?_) (fun h1 => ?_)
      · have hD := hD.1 h1
        show u_P L xs m d m_X0_pass 144 [(0, .ref 76), (1, .ref (s + 1)), (2, .int x2), (3, .int j3)] [] S R _
        refine u_st rfl (fun _ => rfl) ?_
        refine u_st rfl (fun _ => rfl) ?_
        show u_P L xs m d m_X0_pass 146 [(0, .ref 76), (1, .ref (s + 1)), (2, .int x2), (3, .int j3)] [.ref (s + 1), .ref 76] S R _
        refine u_cv (rest := []) rfl (by decide) mt_X0_askRules rfl rfl rfl rfl (Nat.le_of_ble_eq_true rfl) (Nat.le_of_ble_eq_true rfl) (Nat.le_of_ble_eq_true rfl) (fun d' => c_X0_askRules L xs m d' hW hB hb s hs S) ?_
        rintro _ _ _ ⟨rfl, rfl, rfl⟩
        refine u_st rfl (fun _ => rfl) ?_
        refine u_st rfl (fun _ => rfl) ?_
        show u_P L xs m d m_X0_pass 151 [(0, .ref 76), (1, .ref (s + 1)), (2, .int x2), (3, .int j3)] [.ref (s + 1), .ref (s + 1)] (g_X0_askRules b s S) R _
        refine u_getE (v := (g_X0_askRules b s S) s 11) rfl (z_st0 hs) rfl rfl ?_
        refine u_st rfl (fun _ => rfl) ?_
        refine u_st rfl (fun _ => rfl) ?_
        show u_P L xs m d m_X0_pass 156 [(0, .ref 76), (1, .ref (s + 1)), (2, .int x2), (3, .int j3)] [.int (((g_X0_askRules b s S) s 11) + (Int32.ofInt 1)), .ref (s + 1)] (g_X0_askRules b s S) R _
        refine u_put rfl (z_st0 hs) rfl ?_
        show u_P L xs m d m_X0_pass 159 [(0, .ref 76), (1, .ref (s + 1)), (2, .int x2), (3, .int j3)] [] (z_s (g_X0_askRules b s S) s 11 (((g_X0_askRules b s S) s 11) + (Int32.ofInt 1))) R _
        exact u_ret rfl rfl ⟨rfl, rfl, hD⟩
      · have hD := hD.2 h1
        show u_P L xs m d m_X0_pass 123 [(0, .ref 76), (1, .ref (s + 1)), (2, .int x2), (3, .int j3)] [] S R _
        refine u_st rfl (fun _ => rfl) ?_
        refine u_st rfl (fun _ => rfl) ?_
        refine u_st rfl (fun _ => rfl) ?_
        refine u_st rfl (fun _ => rfl) ?_
        show u_P L xs m d m_X0_pass 127 [(0, .ref 76), (1, .ref (s + 1)), (2, .int x2), (3, .int j3)] [.ref 76, .int x2, .ref (s + 1), .ref 76] S R _
        refine u_getr rfl rfl rfl ?_
        refine u_st rfl (fun _ => rfl) ?_
        show u_P L xs m d m_X0_pass 131 [(0, .ref 76), (1, .ref (s + 1)), (2, .int x2), (3, .int j3)] [.int x2, .ref 33, .int x2, .ref (s + 1), .ref 76] S R _
        refine u_aald rfl rfl (fun b21 b22 => ?_)
        rw [hW _ (z_lt6 b21 b22)]
        have hD := hD b21 b22
        show u_P L xs m d m_X0_pass 132 [(0, .ref 76), (1, .ref (s + 1)), (2, .int x2), (3, .int j3)] [.ref (((33 + 2 * x2.toInt.toNat)) + 1), .int x2, .ref (s + 1), .ref 76] S R _
        refine u_getE (v := S ((33 + 2 * x2.toInt.toNat)) 4) rfl (z_wd0 (z_wdi b21 b22)) rfl rfl ?_
        show u_P L xs m d m_X0_pass 135 [(0, .ref 76), (1, .ref (s + 1)), (2, .int x2), (3, .int j3)] [.int (S ((33 + 2 * x2.toInt.toNat)) 4), .int x2, .ref (s + 1), .ref 76] S R _
        refine u_cv (rest := []) rfl (by decide) mt_X0_sicken rfl rfl rfl rfl (Nat.le_of_ble_eq_true rfl) (Nat.le_of_ble_eq_true rfl) (Nat.le_of_ble_eq_true rfl) (fun d' => c_X0_sicken L xs m d' hW hL hc s hs x2 (S ((33 + 2 * x2.toInt.toNat)) 4) S) ?_
        rintro _ _ _ ⟨rfl, rfl, rfl⟩
        refine u_st rfl (fun _ => rfl) ?_
        refine u_st rfl (fun _ => rfl) ?_
        refine u_lc (b := [(0, .ref 76), (1, .ref (s + 1)), (2, .int (x2 + (Int32.ofInt 1))), (3, .int j3)]) (show ([2, 0, 1, 3] : List Nat).Nodup by decide) (show ([0, 1, 2, 3] : List Nat).Nodup by decide) (fun i => match i with | 0 => rfl | 1 => rfl | 2 => rfl | 3 => rfl | _ + 4 => rfl) ?_
        exact (ih m hm).2.2.2 d j3 (x2 + (Int32.ofInt 1)) (g_X0_sicken c s x2 (S ((33 + 2 * x2.toInt.toNat)) 4) S) hD
set_option maxRecDepth 4000 in
theorem w_X0_pass (L : Nat) (xs : Nat → Int32) {R : v_Rf} (hW : z_W R) {c : Nat} (hL : R 50 2 = some (c + 1)) (hc : z_cd c) {b : Nat} (hB : R 50 3 = some (b + 1)) (hb : z_cd b) (s : Nat) (hs : z_st s) (H7 : Int32 → v_Sf → Prop) (H114 : Int32 → v_Sf → Prop) (K : v_Sf → Prop) (k7 : ∀ (x2 : Int32) (S : v_Sf), H7 x2 S → D_X0_pass_7 c b s H7 H114 K x2 S) (k114 : ∀ (x2 : Int32) (S : v_Sf), H114 x2 S → D_X0_pass_114 c b s H7 H114 K x2 S) (n d : Nat) (S : v_Sf) (hD : D_X0_pass c b s H7 H114 K S) : u_P L xs n d m_X0_pass 0 (lv_args 0 [.ref 76, .ref (s + 1)]) [] S R (z_V R K) := by
  unfold D_X0_pass at hD
  show u_P L xs n d m_X0_pass 0 [(0, .ref 76), (1, .ref (s + 1))] [] S R _
  refine u_st rfl (fun _ => rfl) ?_
  refine u_st rfl (fun _ => rfl) ?_
  show u_P L xs n d m_X0_pass 2 [(0, .ref 76), (1, .ref (s + 1))] [.ref (s + 1), .ref 76] S R _
  refine u_cv (rest := []) rfl (by decide) mt_X0_weaken rfl rfl rfl rfl (Nat.le_of_ble_eq_true rfl) (Nat.le_of_ble_eq_true rfl) (Nat.le_of_ble_eq_true rfl) (fun d' => c_X0_weaken L xs n d' hW hL hc s hs S) ?_
  rintro _ _ _ ⟨rfl, rfl, rfl⟩
  refine u_st rfl (fun _ => rfl) ?_
  refine u_st rfl (fun _ => rfl) ?_
  refine u_lc (b := [(0, .ref 76), (1, .ref (s + 1)), (2, .int (Int32.ofInt 0))]) (show ([2, 0, 1] : List Nat).Nodup by decide) (show ([0, 1, 2] : List Nat).Nodup by decide) (fun i => match i with | 0 => rfl | 1 => rfl | 2 => rfl | _ + 3 => rfl) ?_
  exact (hd_X0_pass L xs hW hL hc hB hb s hs H7 H114 K k7 k114 n).1 d (Int32.ofInt 0) (g_X0_weaken c s S) hD
noncomputable def r_X0_pass_114 (c : Nat) (b : Nat) (s : Nat) : Nat → Nat → v_Sf → v_Sf
  | 0, k114, S => z_s (g_X0_askRules b s S) s 11 (((g_X0_askRules b s S) s 11) + (Int32.ofInt 1))
  | r + 1, k114, S => r_X0_pass_114 c b s r (k114 + 1) (g_X0_sicken c s (z_i k114) (S ((33 + 2 * (z_i k114).toInt.toNat)) 4) S)
noncomputable def r_X0_pass_7 (c : Nat) (b : Nat) (s : Nat) : Nat → Nat → v_Sf → v_Sf
  | 0, k7, S => r_X0_pass_114 c b s (6 - 0) 0 (g_X0_recover s (g_X0_quarrelAll c s (g_X0_breakToys c s S)))
  | r + 1, k7, S => (if (f_X7_works s (S ((33 + 2 * (z_i k7).toInt.toNat)) 4) (z_s S (s + 9) (z_i k7).toInt.toNat (f_X9_placeAfter ((33 + 2 * (z_i k7).toInt.toNat)) (S (s + 9) (z_i k7).toInt.toNat) S))) = 0 then r_X0_pass_7 c b s r (k7 + 1) (z_s S (s + 9) (z_i k7).toInt.toNat (f_X9_placeAfter ((33 + 2 * (z_i k7).toInt.toNat)) (S (s + 9) (z_i k7).toInt.toNat) S)) else r_X0_pass_7 c b s r (k7 + 1) (g_X0_teach c s (z_i k7) (f_X9_lessonAt ((33 + 2 * (z_i k7).toInt.toNat)) (S (s + 9) (z_i k7).toInt.toNat) S) (g_X0_strengthen c s (z_i k7) (S ((33 + 2 * (z_i k7).toInt.toNat)) 3) (z_s S (s + 9) (z_i k7).toInt.toNat (f_X9_placeAfter ((33 + 2 * (z_i k7).toInt.toNat)) (S (s + 9) (z_i k7).toInt.toNat) S)))))
noncomputable def F_X0_pass (c : Nat) (b : Nat) (s : Nat) (S : v_Sf) : v_Sf := r_X0_pass_7 c b s (6 - 0) 0 (g_X0_weaken c s S)
noncomputable def g_X0_pass (c : Nat) (b : Nat) (s : Nat) (S : v_Sf) : v_Sf := F_X0_pass c b s S
theorem c_X0_pass (L : Nat) (xs : Nat → Int32) (n d : Nat) {R : v_Rf} (hW : z_W R) {c : Nat} (hL : R 50 2 = some (c + 1)) (hc : z_cd c) {b : Nat} (hB : R 50 3 = some (b + 1)) (hb : z_cd b) (s : Nat) (hs : z_st s) (S : v_Sf) : u_P L xs n d m_X0_pass 0 (lv_args 0 [.ref 76, .ref (s + 1)]) [] S R (z_V R (fun S1 => g_X0_pass c b s S = S1)) := by
  refine w_X0_pass L xs hW hL hc hB hb s hs (fun y2 T => ∃ (k7 : Nat), k7 ≤ 6 ∧ z_i k7 = y2 ∧ r_X0_pass_7 c b s (6 - k7) k7 T = F_X0_pass c b s S) (fun y2 T => ∃ (k114 : Nat), k114 ≤ 6 ∧ z_i k114 = y2 ∧ r_X0_pass_114 c b s (6 - k114) k114 T = F_X0_pass c b s S) (fun S1 => g_X0_pass c b s S = S1) ?_ ?_ n d S ?_
  · rintro _ S1 ⟨k7, hkk, rfl, e⟩
    unfold D_X0_pass_7
    rcases Nat.lt_or_ge k7 (6) with hk | hk
    · rw [show 6 - k7 = (6 - (k7 + 1)) + 1 by omega, r_X0_pass_7] at e
      refine ⟨fun q1 => ?_, fun q1 => ?_⟩
      · exact absurd hk (Nat.not_lt.mpr (z_leB2 (B := 6) q1 (by decide) (by omega)))
      · intro _ _
        intro _ _
        intro _ _
        intro _ _
        intro _ _
        intro _ _
        refine ⟨fun q2 => ?_, fun q2 => ?_⟩
        · rw [if_pos q2] at e
          exact ⟨(k7 + 1), by omega, (z_i1 k7).symm, e⟩
        · intro _ _
          rw [if_neg q2] at e
          exact ⟨(k7 + 1), by omega, (z_i1 k7).symm, e⟩
    · rw [show 6 - k7 = 0 by omega, r_X0_pass_7] at e
      refine ⟨fun q3 => ?_, fun q3 => ?_⟩
      · exact ⟨0, by omega, rfl, e⟩
      · exact absurd hk (Nat.not_le.mpr (z_ltB2 (B := 6) q3 (by decide) (by omega)))
  · rintro _ S1 ⟨k114, hkk, rfl, e⟩
    unfold D_X0_pass_114
    rcases Nat.lt_or_ge k114 (6) with hk | hk
    · rw [show 6 - k114 = (6 - (k114 + 1)) + 1 by omega, r_X0_pass_114] at e
      refine ⟨fun q4 => ?_, fun q4 => ?_⟩
      · exact absurd hk (Nat.not_lt.mpr (z_leB2 (B := 6) q4 (by decide) (by omega)))
      · intro _ _
        exact ⟨(k114 + 1), by omega, (z_i1 k114).symm, e⟩
    · rw [show 6 - k114 = 0 by omega, r_X0_pass_114] at e
      refine ⟨fun q5 => ?_, fun q5 => ?_⟩
      · exact e.symm
      · exact absurd hk (Nat.not_le.mpr (z_ltB2 (B := 6) q5 (by decide) (by omega)))
  · unfold D_X0_pass
    have e : r_X0_pass_7 c b s (6 - 0) 0 (g_X0_weaken c s S) = F_X0_pass c b s S := by rw [F_X0_pass]
    exact ⟨0, by omega, rfl, e⟩
noncomputable abbrev m_X0_go : g_M := (g_cn 0, yX0_go, cX0_go, 4, none, g_look2 ttX0_go)
set_option maxRecDepth 20000 in
theorem mt_X0_go : g_mt 2 = some m_X0_go := rfl
noncomputable def D_X0_go_29 (c : Nat) (b : Nat) (s : Nat) (H29 : Int32 → Int32 → v_Sf → Prop) (K : v_Sf → Prop) (x2 : Int32) (x3 : Int32) (S : v_Sf) : Prop := ((x2 ≤ x3 → K S) ∧ (¬ (x2 ≤ x3) → (((Int32.ofInt 9999) ≤ (S s 11) → K S) ∧ (¬ ((Int32.ofInt 9999) ≤ (S s 11)) → H29 x2 (x3 + (Int32.ofInt 1)) (g_X0_pass c b s S)))))
noncomputable def D_X0_go (c : Nat) (b : Nat) (s : Nat) (m : Int32) (H29 : Int32 → Int32 → v_Sf → Prop) (K : v_Sf → Prop) (S : v_Sf) : Prop := H29 m (Int32.ofInt 0) (z_s (z_s (z_s (z_s (z_s S 75 3 (Int32.ofInt 0)) 75 4 (Int32.ofInt 0)) 75 5 (Int32.ofInt 0)) 75 6 (Int32.ofInt (-2))) 75 7 (Int32.ofInt (-2)))
set_option maxRecDepth 4000 in
theorem hd_X0_go (L : Nat) (xs : Nat → Int32) {R : v_Rf} (hW : z_W R) {c : Nat} (hL : R 50 2 = some (c + 1)) (hc : z_cd c) {b : Nat} (hB : R 50 3 = some (b + 1)) (hb : z_cd b) (s : Nat) (hs : z_st s) (m : Int32) (H29 : Int32 → Int32 → v_Sf → Prop) (K : v_Sf → Prop) (k29 : ∀ (x2 : Int32) (x3 : Int32) (S : v_Sf), H29 x2 x3 S → D_X0_go_29 c b s H29 K x2 x3 S) : ∀ n, (∀ (d : Nat) (x2 : Int32) (x3 : Int32) (S : v_Sf), H29 x2 x3 S → u_P L xs n d m_X0_go 29 [(0, .ref 76), (1, .ref (s + 1)), (2, .int x2), (3, .int x3)] [] S R (z_V R K)) := by
  intro n
  induction n using Nat.strongRecOn with
  | ind n ih =>
    intro d x2 x3 S hD
    have hD := k29 x2 x3 S hD
    unfold D_X0_go_29 at hD
    show u_P L xs n d m_X0_go 29 [(0, .ref 76), (1, .ref (s + 1)), (2, .int x2), (3, .int x3)] [] S R _
    refine u_st1 rfl (fun _ => rfl) (fun m hm => ?_)
    refine u_st rfl (fun _ => rfl) ?_
    show u_P L xs m d m_X0_go 31 [(0, .ref 76), (1, .ref (s + 1)), (2, .int x2), (3, .int x3)] [.int x2, .int x3] S R _
    refine u_ic_ge rfl (fun h1 => ?_) (fun h1 => ?_)
    · have hD := hD.1 h1
      show u_P L xs m d m_X0_go 55 [(0, .ref 76), (1, .ref (s + 1)), (2, .int x2), (3, .int x3)] [] S R _
      exact u_ret rfl rfl ⟨rfl, rfl, hD⟩
    · have hD := hD.2 h1
      show u_P L xs m d m_X0_go 34 [(0, .ref 76), (1, .ref (s + 1)), (2, .int x2), (3, .int x3)] [] S R _
      refine u_st rfl (fun _ => rfl) ?_
      show u_P L xs m d m_X0_go 35 [(0, .ref 76), (1, .ref (s + 1)), (2, .int x2), (3, .int x3)] [.ref (s + 1)] S R _
      refine u_getE (v := S s 11) rfl (z_st0 hs) rfl rfl ?_
      refine u_st rfl (fun _ => rfl) ?_
      show u_P L xs m d m_X0_go 41 [(0, .ref 76), (1, .ref (s + 1)), (2, .int x2), (3, .int x3)] [.int (Int32.ofInt 9999), .int (S s 11)] S R _
      refine u_ic_ge rfl (fun h2 => ?_) (fun h2 => ?_)
      · have hD := hD.1 h2
        show u_P L xs m d m_X0_go 55 [(0, .ref 76), (1, .ref (s + 1)), (2, .int x2), (3, .int x3)] [] S R _
        exact u_ret rfl rfl ⟨rfl, rfl, hD⟩
      · have hD := hD.2 h2
        show u_P L xs m d m_X0_go 44 [(0, .ref 76), (1, .ref (s + 1)), (2, .int x2), (3, .int x3)] [] S R _
        refine u_st rfl (fun _ => rfl) ?_
        refine u_st rfl (fun _ => rfl) ?_
        show u_P L xs m d m_X0_go 46 [(0, .ref 76), (1, .ref (s + 1)), (2, .int x2), (3, .int x3)] [.ref (s + 1), .ref 76] S R _
        refine u_cv (rest := []) rfl (by decide) mt_X0_pass rfl rfl rfl rfl (Nat.le_of_ble_eq_true rfl) (Nat.le_of_ble_eq_true rfl) (Nat.le_of_ble_eq_true rfl) (fun d' => c_X0_pass L xs m d' hW hL hc hB hb s hs S) ?_
        rintro _ _ _ ⟨rfl, rfl, rfl⟩
        refine u_st rfl (fun _ => rfl) ?_
        refine u_st rfl (fun _ => rfl) ?_
        refine u_lc (b := [(0, .ref 76), (1, .ref (s + 1)), (2, .int x2), (3, .int (x3 + (Int32.ofInt 1)))]) (show ([3, 0, 1, 2] : List Nat).Nodup by decide) (show ([0, 1, 2, 3] : List Nat).Nodup by decide) (fun i => match i with | 0 => rfl | 1 => rfl | 2 => rfl | 3 => rfl | _ + 4 => rfl) ?_
        exact (ih m hm) d x2 (x3 + (Int32.ofInt 1)) (g_X0_pass c b s S) hD
set_option maxRecDepth 4000 in
theorem w_X0_go (L : Nat) (xs : Nat → Int32) {R : v_Rf} (hW : z_W R) {c : Nat} (hL : R 50 2 = some (c + 1)) (hc : z_cd c) {b : Nat} (hB : R 50 3 = some (b + 1)) (hb : z_cd b) (s : Nat) (hs : z_st s) (m : Int32) (H29 : Int32 → Int32 → v_Sf → Prop) (K : v_Sf → Prop) (k29 : ∀ (x2 : Int32) (x3 : Int32) (S : v_Sf), H29 x2 x3 S → D_X0_go_29 c b s H29 K x2 x3 S) (n d : Nat) (S : v_Sf) (hD : D_X0_go c b s m H29 K S) : u_P L xs n d m_X0_go 0 (lv_args 0 [.ref 76, .ref (s + 1), .int m]) [] S R (z_V R K) := by
  unfold D_X0_go at hD
  show u_P L xs n d m_X0_go 0 [(0, .ref 76), (1, .ref (s + 1)), (2, .int m)] [] S R _
  refine u_st rfl (fun _ => rfl) ?_
  refine u_st rfl (fun _ => rfl) ?_
  show u_P L xs n d m_X0_go 2 [(0, .ref 76), (1, .ref (s + 1)), (2, .int m)] [.int (Int32.ofInt 0), .ref 76] S R _
  refine u_put rfl rfl rfl ?_
  refine u_st rfl (fun _ => rfl) ?_
  refine u_st rfl (fun _ => rfl) ?_
  show u_P L xs n d m_X0_go 7 [(0, .ref 76), (1, .ref (s + 1)), (2, .int m)] [.int (Int32.ofInt 0), .ref 76] (z_s S 75 3 (Int32.ofInt 0)) R _
  refine u_put rfl rfl rfl ?_
  refine u_st rfl (fun _ => rfl) ?_
  refine u_st rfl (fun _ => rfl) ?_
  show u_P L xs n d m_X0_go 12 [(0, .ref 76), (1, .ref (s + 1)), (2, .int m)] [.int (Int32.ofInt 0), .ref 76] (z_s (z_s S 75 3 (Int32.ofInt 0)) 75 4 (Int32.ofInt 0)) R _
  refine u_put rfl rfl rfl ?_
  refine u_st rfl (fun _ => rfl) ?_
  refine u_st rfl (fun _ => rfl) ?_
  show u_P L xs n d m_X0_go 18 [(0, .ref 76), (1, .ref (s + 1)), (2, .int m)] [.int (Int32.ofInt (-2)), .ref 76] (z_s (z_s (z_s S 75 3 (Int32.ofInt 0)) 75 4 (Int32.ofInt 0)) 75 5 (Int32.ofInt 0)) R _
  refine u_put rfl rfl rfl ?_
  refine u_st rfl (fun _ => rfl) ?_
  refine u_st rfl (fun _ => rfl) ?_
  show u_P L xs n d m_X0_go 24 [(0, .ref 76), (1, .ref (s + 1)), (2, .int m)] [.int (Int32.ofInt (-2)), .ref 76] (z_s (z_s (z_s (z_s S 75 3 (Int32.ofInt 0)) 75 4 (Int32.ofInt 0)) 75 5 (Int32.ofInt 0)) 75 6 (Int32.ofInt (-2))) R _
  refine u_put rfl rfl rfl ?_
  refine u_st rfl (fun _ => rfl) ?_
  refine u_st rfl (fun _ => rfl) ?_
  refine u_lc (b := [(0, .ref 76), (1, .ref (s + 1)), (2, .int m), (3, .int (Int32.ofInt 0))]) (show ([3, 0, 1, 2] : List Nat).Nodup by decide) (show ([0, 1, 2, 3] : List Nat).Nodup by decide) (fun i => match i with | 0 => rfl | 1 => rfl | 2 => rfl | 3 => rfl | _ + 4 => rfl) ?_
  exact (hd_X0_go L xs hW hL hc hB hb s hs m H29 K k29 n) d m (Int32.ofInt 0) (z_s (z_s (z_s (z_s (z_s S 75 3 (Int32.ofInt 0)) 75 4 (Int32.ofInt 0)) 75 5 (Int32.ofInt 0)) 75 6 (Int32.ofInt (-2))) 75 7 (Int32.ofInt (-2))) hD
noncomputable def r_X0_go_29 (c : Nat) (b : Nat) (s : Nat) (x2 : Int32) : Nat → Nat → v_Sf → v_Sf
  | 0, k29, S => S
  | r + 1, k29, S => (if (Int32.ofInt 9999) ≤ (S s 11) then S else r_X0_go_29 c b s x2 r (k29 + 1) (g_X0_pass c b s S))
noncomputable def F_X0_go (c : Nat) (b : Nat) (s : Nat) (m : Int32) (S : v_Sf) : v_Sf := r_X0_go_29 c b s m (m.toInt.toNat - 0) 0 (z_s (z_s (z_s (z_s (z_s S 75 3 (Int32.ofInt 0)) 75 4 (Int32.ofInt 0)) 75 5 (Int32.ofInt 0)) 75 6 (Int32.ofInt (-2))) 75 7 (Int32.ofInt (-2)))
noncomputable def g_X0_go (c : Nat) (b : Nat) (s : Nat) (m : Int32) (S : v_Sf) : v_Sf := F_X0_go c b s m S
theorem c_X0_go (L : Nat) (xs : Nat → Int32) (n d : Nat) {R : v_Rf} (hW : z_W R) {c : Nat} (hL : R 50 2 = some (c + 1)) (hc : z_cd c) {b : Nat} (hB : R 50 3 = some (b + 1)) (hb : z_cd b) (s : Nat) (hs : z_st s) (m : Int32) (S : v_Sf) : u_P L xs n d m_X0_go 0 (lv_args 0 [.ref 76, .ref (s + 1), .int m]) [] S R (z_V R (fun S1 => g_X0_go c b s m S = S1)) := by
  refine w_X0_go L xs hW hL hc hB hb s hs m (fun y2 y3 T => ∃ (k29 : Nat), k29 ≤ m.toInt.toNat ∧ z_i k29 = y3 ∧ m = y2 ∧ r_X0_go_29 c b s m (m.toInt.toNat - k29) k29 T = F_X0_go c b s m S) (fun S1 => g_X0_go c b s m S = S1) ?_ n d S ?_
  · rintro _ _ S1 ⟨k29, hkk, rfl, rfl, e⟩
    unfold D_X0_go_29
    rcases Nat.lt_or_ge k29 (m.toInt.toNat) with hk | hk
    · rw [show m.toInt.toNat - k29 = (m.toInt.toNat - (k29 + 1)) + 1 by omega, r_X0_go_29] at e
      refine ⟨fun q1 => ?_, fun q1 => ?_⟩
      · exact absurd hk (Nat.not_lt.mpr (z_leV q1 (by omega)))
      · refine ⟨fun q2 => ?_, fun q2 => ?_⟩
        · rw [if_pos q2] at e
          exact e.symm
        · rw [if_neg q2] at e
          exact ⟨(k29 + 1), by omega, (z_i1 k29).symm, rfl, e⟩
    · rw [show m.toInt.toNat - k29 = 0 by omega, r_X0_go_29] at e
      refine ⟨fun q3 => ?_, fun q3 => ?_⟩
      · exact e.symm
      · exact absurd hk (Nat.not_le.mpr (z_ltV q3 (by omega)))
  · unfold D_X0_go
    have e : r_X0_go_29 c b s m (m.toInt.toNat - 0) 0 (z_s (z_s (z_s (z_s (z_s S 75 3 (Int32.ofInt 0)) 75 4 (Int32.ofInt 0)) 75 5 (Int32.ofInt 0)) 75 6 (Int32.ofInt (-2))) 75 7 (Int32.ofInt (-2))) = F_X0_go c b s m S := by rw [F_X0_go]
    exact ⟨0, by omega, rfl, rfl, e⟩
noncomputable abbrev m_X11_months : g_M := (g_cn 11, yX11_months, cX11_months, 2, (some .int), g_look2 ttX11_months)
set_option maxRecDepth 20000 in
theorem mt_X11_months : g_mt 126 = some m_X11_months := rfl
noncomputable def f_X11_months (c : Nat) (b : Nat) (m : Int32) (S : v_Sf) : Int32 := (if m < (Int32.ofInt 1) then Int32.ofInt (-1) else (if m ≤ (Int32.ofInt 60) then (g_X0_go c b 1 m S) 75 3 else Int32.ofInt (-1)))
noncomputable def g_X11_months (c : Nat) (b : Nat) (m : Int32) (S : v_Sf) : v_Sf := (if m < (Int32.ofInt 1) then S else (if m ≤ (Int32.ofInt 60) then g_X0_go c b 1 m S else S))
set_option maxRecDepth 4000 in
theorem c_X11_months (L : Nat) (xs : Nat → Int32) (n d : Nat) {R : v_Rf} (hW : z_W R) {c : Nat} (hL : R 50 2 = some (c + 1)) (hc : z_cd c) {b : Nat} (hB : R 50 3 = some (b + 1)) (hb : z_cd b) (m : Int32) (S : v_Sf) : u_P L xs n d m_X11_months 0 (lv_args 0 [.ref 1, .int m]) [] S R (z_Q R (fun v S1 => f_X11_months c b m S = v ∧ g_X11_months c b m S = S1)) := by
  show u_P L xs n d m_X11_months 0 [(0, .ref 1), (1, .int m)] [] S R _
  refine u_st rfl (fun _ => rfl) ?_
  refine u_st rfl (fun _ => rfl) ?_
  show u_P L xs n d m_X11_months 2 [(0, .ref 1), (1, .int m)] [.int (Int32.ofInt 1), .int m] S R _
  refine u_ic_lt rfl (fun h1 => ?_) (fun h1 => ?_)
  · show u_P L xs n d m_X11_months 11 [(0, .ref 1), (1, .int m)] [] S R _
    refine u_st rfl (fun _ => rfl) ?_
    show u_P L xs n d m_X11_months 12 [(0, .ref 1), (1, .int m)] [.int (Int32.ofInt (-1))] S R _
    exact u_ret rfl rfl ⟨_, rfl, rfl, by rw [f_X11_months, if_pos h1], by rw [g_X11_months, if_pos h1]⟩
  · show u_P L xs n d m_X11_months 5 [(0, .ref 1), (1, .int m)] [] S R _
    refine u_st rfl (fun _ => rfl) ?_
    refine u_st rfl (fun _ => rfl) ?_
    show u_P L xs n d m_X11_months 8 [(0, .ref 1), (1, .int m)] [.int (Int32.ofInt 60), .int m] S R _
    refine u_ic_le rfl (fun h2 => ?_) (fun h2 => ?_)
    · show u_P L xs n d m_X11_months 13 [(0, .ref 1), (1, .int m)] [] S R _
      refine u_st rfl (fun _ => rfl) ?_
      show u_P L xs n d m_X11_months 14 [(0, .ref 1), (1, .int m)] [.ref 1] S R _
      refine u_getr rfl v_tyC rfl ?_
      refine u_st rfl (fun _ => rfl) ?_
      show u_P L xs n d m_X11_months 18 [(0, .ref 1), (1, .int m)] [.ref 1, .ref 76] S R _
      refine u_getr rfl v_tyC rfl ?_
      refine u_st rfl (fun _ => rfl) ?_
      show u_P L xs n d m_X11_months 22 [(0, .ref 1), (1, .int m)] [.int m, .ref 2, .ref 76] S R _
      refine u_cv (rest := []) rfl (by decide) mt_X0_go rfl rfl rfl rfl (Nat.le_of_ble_eq_true rfl) (Nat.le_of_ble_eq_true rfl) (Nat.le_of_ble_eq_true rfl) (fun d' => c_X0_go L xs n d' hW hL hc hB hb 1 (Or.inl rfl) m S) ?_
      rintro _ _ _ ⟨rfl, rfl, rfl⟩
      refine u_st rfl (fun _ => rfl) ?_
      show u_P L xs n d m_X11_months 26 [(0, .ref 1), (1, .int m)] [.ref 1] (g_X0_go c b 1 m S) R _
      refine u_getr rfl v_tyC rfl ?_
      show u_P L xs n d m_X11_months 29 [(0, .ref 1), (1, .int m)] [.ref 76] (g_X0_go c b 1 m S) R _
      refine u_getE (v := (g_X0_go c b 1 m S) 75 3) rfl rfl rfl rfl ?_
      show u_P L xs n d m_X11_months 32 [(0, .ref 1), (1, .int m)] [.int ((g_X0_go c b 1 m S) 75 3)] (g_X0_go c b 1 m S) R _
      exact u_ret rfl rfl ⟨_, rfl, rfl, by rw [f_X11_months, if_neg h1, if_pos h2], by rw [g_X11_months, if_neg h1, if_pos h2]⟩
    · show u_P L xs n d m_X11_months 11 [(0, .ref 1), (1, .int m)] [] S R _
      refine u_st rfl (fun _ => rfl) ?_
      show u_P L xs n d m_X11_months 12 [(0, .ref 1), (1, .int m)] [.int (Int32.ofInt (-1))] S R _
      exact u_ret rfl rfl ⟨_, rfl, rfl, by rw [f_X11_months, if_neg h1, if_neg h2], by rw [g_X11_months, if_neg h1, if_neg h2]⟩
end PrtS42i
section PrtS42j
noncomputable abbrev m_X12_tells : g_M := (g_cn 12, yX12_tells, cX12_tells, 4, (some .int), g_look2 ttX12_tells)
set_option maxRecDepth 20000 in
theorem mt_X12_tells : g_mt 200 = some m_X12_tells := rfl
noncomputable def D_X12_tells_2  (H2 : Int32 → Int32 → Int32 → v_Sf → Prop) (K : Int32 → v_Sf → Prop) (x1 : Int32) (x2 : Int32) (x3 : Int32) (S : v_Sf) : Prop := (((S 99 16) ≤ x3 → K (Int32.ofInt 0) S) ∧ (¬ ((S 99 16) ≤ x3) → (0 ≤ x3.toInt → x3.toInt < 28 → (((¬ (S 101 x3.toInt.toNat) = x1) → H2 x1 x2 (x3 + (Int32.ofInt 1)) S) ∧ (¬ (¬ (S 101 x3.toInt.toNat) = x1) → (0 ≤ x3.toInt → x3.toInt < 28 → (((¬ (f_X12_isSo x3 S) = 0) → (0 ≤ x3.toInt → x3.toInt < 28 → (0 ≤ x3.toInt → x3.toInt < 28 → (0 ≤ (Int32.ofInt 0).toInt → (Int32.ofInt 0).toInt < 240 → ((((g_X12_works ((g_X12_isSo x3 S) 102 x3.toInt.toNat) ((g_X12_isSo x3 S) 103 x3.toInt.toNat) (g_X12_isSo x3 S)) 115 0) = 0 → (0 ≤ (Int32.ofInt 0).toInt → (Int32.ofInt 0).toInt < 240 → K (f_X12_held ((g_X12_works ((g_X12_isSo x3 S) 102 x3.toInt.toNat) ((g_X12_isSo x3 S) 103 x3.toInt.toNat) (g_X12_isSo x3 S)) 114 0) x2) (g_X12_works ((g_X12_isSo x3 S) 102 x3.toInt.toNat) ((g_X12_isSo x3 S) 103 x3.toInt.toNat) (g_X12_isSo x3 S)))) ∧ (¬ (((g_X12_works ((g_X12_isSo x3 S) 102 x3.toInt.toNat) ((g_X12_isSo x3 S) 103 x3.toInt.toNat) (g_X12_isSo x3 S)) 115 0) = 0) → K (Int32.ofInt 0) (g_X12_works ((g_X12_isSo x3 S) 102 x3.toInt.toNat) ((g_X12_isSo x3 S) 103 x3.toInt.toNat) (g_X12_isSo x3 S)))))))) ∧ (¬ (¬ (f_X12_isSo x3 S) = 0) → H2 x1 x2 (x3 + (Int32.ofInt 1)) (g_X12_isSo x3 S)))))))))
noncomputable def D_X12_tells (a : Int32) (b : Int32) (H2 : Int32 → Int32 → Int32 → v_Sf → Prop) (K : Int32 → v_Sf → Prop) (S : v_Sf) : Prop := H2 a b (Int32.ofInt 0) S
set_option maxRecDepth 4000 in
theorem hd_X12_tells (L : Nat) (xs : Nat → Int32) {R : v_Rf} (a : Int32) (b : Int32) (H2 : Int32 → Int32 → Int32 → v_Sf → Prop) (K : Int32 → v_Sf → Prop) (k2 : ∀ (x1 : Int32) (x2 : Int32) (x3 : Int32) (S : v_Sf), H2 x1 x2 x3 S → D_X12_tells_2 H2 K x1 x2 x3 S) : ∀ n, (∀ (d : Nat) (x1 : Int32) (x2 : Int32) (x3 : Int32) (S : v_Sf), H2 x1 x2 x3 S → u_P L xs n d m_X12_tells 2 [(0, .ref 100), (1, .int x1), (2, .int x2), (3, .int x3)] [] S R (z_Q R K)) := by
  intro n
  induction n using Nat.strongRecOn with
  | ind n ih =>
    intro d x1 x2 x3 S hD
    have hD := k2 x1 x2 x3 S hD
    unfold D_X12_tells_2 at hD
    show u_P L xs n d m_X12_tells 2 [(0, .ref 100), (1, .int x1), (2, .int x2), (3, .int x3)] [] S R _
    refine u_st1 rfl (fun _ => rfl) (fun m hm => ?_)
    refine u_st rfl (fun _ => rfl) ?_
    show u_P L xs m d m_X12_tells 4 [(0, .ref 100), (1, .int x1), (2, .int x2), (3, .int x3)] [.ref 100, .int x3] S R _
    refine u_getE (v := S 99 16) rfl v_tyM rfl rfl ?_
    show u_P L xs m d m_X12_tells 7 [(0, .ref 100), (1, .int x1), (2, .int x2), (3, .int x3)] [.int (S 99 16), .int x3] S R _
    refine u_ic_ge rfl (fun h1 => ?_) (fun h1 => ?_)
    · have hD := hD.1 h1
      show u_P L xs m d m_X12_tells 77 [(0, .ref 100), (1, .int x1), (2, .int x2), (3, .int x3)] [] S R _
      refine u_st rfl (fun _ => rfl) ?_
      show u_P L xs m d m_X12_tells 78 [(0, .ref 100), (1, .int x1), (2, .int x2), (3, .int x3)] [.int (Int32.ofInt 0)] S R _
      exact u_ret rfl rfl ⟨_, rfl, rfl, hD⟩
    · have hD := hD.2 h1
      show u_P L xs m d m_X12_tells 10 [(0, .ref 100), (1, .int x1), (2, .int x2), (3, .int x3)] [] S R _
      refine u_st rfl (fun _ => rfl) ?_
      show u_P L xs m d m_X12_tells 11 [(0, .ref 100), (1, .int x1), (2, .int x2), (3, .int x3)] [.ref 100] S R _
      refine u_getr rfl v_tyM rfl ?_
      refine u_st rfl (fun _ => rfl) ?_
      show u_P L xs m d m_X12_tells 15 [(0, .ref 100), (1, .int x1), (2, .int x2), (3, .int x3)] [.int x3, .ref 102] S R _
      refine u_ialdE (v := S 101 x3.toInt.toNat) rfl rfl rfl (fun b21 b22 => ?_)
      have hD := hD b21 b22
      show u_P L xs m d m_X12_tells 16 [(0, .ref 100), (1, .int x1), (2, .int x2), (3, .int x3)] [.int (S 101 x3.toInt.toNat)] S R _
      refine u_st rfl (fun _ => rfl) ?_
      show u_P L xs m d m_X12_tells 17 [(0, .ref 100), (1, .int x1), (2, .int x2), (3, .int x3)] [.int x1, .int (S 101 x3.toInt.toNat)] S R _
      refine u_ic_ne rfl (fun h3 => ?_) (fun h3 => ?_)
      · have hD := hD.1 h3
        show u_P L xs m d m_X12_tells 71 [(0, .ref 100), (1, .int x1), (2, .int x2), (3, .int x3)] [] S R _
        refine u_st rfl (fun _ => rfl) ?_
        refine u_st rfl (fun _ => rfl) ?_
        refine u_lc (b := [(0, .ref 100), (1, .int x1), (2, .int x2), (3, .int (x3 + (Int32.ofInt 1)))]) (show ([3, 0, 1, 2] : List Nat).Nodup by decide) (show ([0, 1, 2, 3] : List Nat).Nodup by decide) (fun i => match i with | 0 => rfl | 1 => rfl | 2 => rfl | 3 => rfl | _ + 4 => rfl) ?_
        exact (ih m hm) d x1 x2 (x3 + (Int32.ofInt 1)) S hD
      · have hD := hD.2 h3
        show u_P L xs m d m_X12_tells 20 [(0, .ref 100), (1, .int x1), (2, .int x2), (3, .int x3)] [] S R _
        refine u_st rfl (fun _ => rfl) ?_
        refine u_st rfl (fun _ => rfl) ?_
        show u_P L xs m d m_X12_tells 22 [(0, .ref 100), (1, .int x1), (2, .int x2), (3, .int x3)] [.int x3, .ref 100] S R _
        refine u_cv (rest := []) rfl (by decide) mt_X12_isSo v_tyM rfl rfl rfl (Nat.le_of_ble_eq_true rfl) (Nat.le_of_ble_eq_true rfl) (Nat.le_of_ble_eq_true rfl) (fun d' => c_X12_isSo L xs m d' x3 S R) ?_
        rintro _ _ _ ⟨_, rfl, rfl, rfl, rfl, b41, b42⟩
        have hD := hD b41 b42
        show u_P L xs m d m_X12_tells 25 [(0, .ref 100), (1, .int x1), (2, .int x2), (3, .int x3)] [.int (f_X12_isSo x3 S)] (g_X12_isSo x3 S) R _
        refine u_if_ne rfl (fun h5 => ?_) (fun h5 => ?_)
        · have hD := hD.1 h5
          show u_P L xs m d m_X12_tells 31 [(0, .ref 100), (1, .int x1), (2, .int x2), (3, .int x3)] [] (g_X12_isSo x3 S) R _
          refine u_st rfl (fun _ => rfl) ?_
          refine u_st rfl (fun _ => rfl) ?_
          show u_P L xs m d m_X12_tells 33 [(0, .ref 100), (1, .int x1), (2, .int x2), (3, .int x3)] [.ref 100, .ref 100] (g_X12_isSo x3 S) R _
          refine u_getr rfl v_tyM rfl ?_
          refine u_st rfl (fun _ => rfl) ?_
          show u_P L xs m d m_X12_tells 37 [(0, .ref 100), (1, .int x1), (2, .int x2), (3, .int x3)] [.int x3, .ref 103, .ref 100] (g_X12_isSo x3 S) R _
          refine u_ialdE (v := (g_X12_isSo x3 S) 102 x3.toInt.toNat) rfl rfl rfl (fun b61 b62 => ?_)
          have hD := hD b61 b62
          show u_P L xs m d m_X12_tells 38 [(0, .ref 100), (1, .int x1), (2, .int x2), (3, .int x3)] [.int ((g_X12_isSo x3 S) 102 x3.toInt.toNat), .ref 100] (g_X12_isSo x3 S) R _
          refine u_st rfl (fun _ => rfl) ?_
          show u_P L xs m d m_X12_tells 39 [(0, .ref 100), (1, .int x1), (2, .int x2), (3, .int x3)] [.ref 100, .int ((g_X12_isSo x3 S) 102 x3.toInt.toNat), .ref 100] (g_X12_isSo x3 S) R _
          refine u_getr rfl v_tyM rfl ?_
          refine u_st rfl (fun _ => rfl) ?_
          show u_P L xs m d m_X12_tells 43 [(0, .ref 100), (1, .int x1), (2, .int x2), (3, .int x3)] [.int x3, .ref 104, .int ((g_X12_isSo x3 S) 102 x3.toInt.toNat), .ref 100] (g_X12_isSo x3 S) R _
          refine u_ialdE (v := (g_X12_isSo x3 S) 103 x3.toInt.toNat) rfl rfl rfl (fun b71 b72 => ?_)
          have hD := hD b71 b72
          show u_P L xs m d m_X12_tells 44 [(0, .ref 100), (1, .int x1), (2, .int x2), (3, .int x3)] [.int ((g_X12_isSo x3 S) 103 x3.toInt.toNat), .int ((g_X12_isSo x3 S) 102 x3.toInt.toNat), .ref 100] (g_X12_isSo x3 S) R _
          refine u_cv (rest := []) rfl (by decide) mt_X12_works v_tyM rfl rfl rfl (Nat.le_of_ble_eq_true rfl) (Nat.le_of_ble_eq_true rfl) (Nat.le_of_ble_eq_true rfl) (fun d' => c_X12_works L xs m d' ((g_X12_isSo x3 S) 102 x3.toInt.toNat) ((g_X12_isSo x3 S) 103 x3.toInt.toNat) (g_X12_isSo x3 S) R) ?_
          rintro _ _ _ ⟨rfl, rfl, rfl⟩
          refine u_st rfl (fun _ => rfl) ?_
          show u_P L xs m d m_X12_tells 48 [(0, .ref 100), (1, .int x1), (2, .int x2), (3, .int x3)] [.ref 100] (g_X12_works ((g_X12_isSo x3 S) 102 x3.toInt.toNat) ((g_X12_isSo x3 S) 103 x3.toInt.toNat) (g_X12_isSo x3 S)) R _
          refine u_getr rfl v_tyM rfl ?_
          refine u_st rfl (fun _ => rfl) ?_
          show u_P L xs m d m_X12_tells 52 [(0, .ref 100), (1, .int x1), (2, .int x2), (3, .int x3)] [.int (Int32.ofInt 0), .ref 116] (g_X12_works ((g_X12_isSo x3 S) 102 x3.toInt.toNat) ((g_X12_isSo x3 S) 103 x3.toInt.toNat) (g_X12_isSo x3 S)) R _
          refine u_baldE (v := (g_X12_works ((g_X12_isSo x3 S) 102 x3.toInt.toNat) ((g_X12_isSo x3 S) 103 x3.toInt.toNat) (g_X12_isSo x3 S)) 115 0) rfl rfl (by decide) rfl (fun b81 b82 => ?_)
          have hD := hD b81 b82
          show u_P L xs m d m_X12_tells 53 [(0, .ref 100), (1, .int x1), (2, .int x2), (3, .int x3)] [.int ((g_X12_works ((g_X12_isSo x3 S) 102 x3.toInt.toNat) ((g_X12_isSo x3 S) 103 x3.toInt.toNat) (g_X12_isSo x3 S)) 115 0)] (g_X12_works ((g_X12_isSo x3 S) 102 x3.toInt.toNat) ((g_X12_isSo x3 S) 103 x3.toInt.toNat) (g_X12_isSo x3 S)) R _
          refine u_if_eq rfl (fun h9 => ?_) (fun h9 => ?_)
          · have hD := hD.1 h9
            show u_P L xs m d m_X12_tells 60 [(0, .ref 100), (1, .int x1), (2, .int x2), (3, .int x3)] [] (g_X12_works ((g_X12_isSo x3 S) 102 x3.toInt.toNat) ((g_X12_isSo x3 S) 103 x3.toInt.toNat) (g_X12_isSo x3 S)) R _
            refine u_st rfl (fun _ => rfl) ?_
            show u_P L xs m d m_X12_tells 61 [(0, .ref 100), (1, .int x1), (2, .int x2), (3, .int x3)] [.ref 100] (g_X12_works ((g_X12_isSo x3 S) 102 x3.toInt.toNat) ((g_X12_isSo x3 S) 103 x3.toInt.toNat) (g_X12_isSo x3 S)) R _
            refine u_getr rfl v_tyM rfl ?_
            refine u_st rfl (fun _ => rfl) ?_
            show u_P L xs m d m_X12_tells 65 [(0, .ref 100), (1, .int x1), (2, .int x2), (3, .int x3)] [.int (Int32.ofInt 0), .ref 115] (g_X12_works ((g_X12_isSo x3 S) 102 x3.toInt.toNat) ((g_X12_isSo x3 S) 103 x3.toInt.toNat) (g_X12_isSo x3 S)) R _
            refine u_ialdE (v := (g_X12_works ((g_X12_isSo x3 S) 102 x3.toInt.toNat) ((g_X12_isSo x3 S) 103 x3.toInt.toNat) (g_X12_isSo x3 S)) 114 0) rfl rfl rfl (fun b101 b102 => ?_)
            have hD := hD b101 b102
            show u_P L xs m d m_X12_tells 66 [(0, .ref 100), (1, .int x1), (2, .int x2), (3, .int x3)] [.int ((g_X12_works ((g_X12_isSo x3 S) 102 x3.toInt.toNat) ((g_X12_isSo x3 S) 103 x3.toInt.toNat) (g_X12_isSo x3 S)) 114 0)] (g_X12_works ((g_X12_isSo x3 S) 102 x3.toInt.toNat) ((g_X12_isSo x3 S) 103 x3.toInt.toNat) (g_X12_isSo x3 S)) R _
            refine u_st rfl (fun _ => rfl) ?_
            show u_P L xs m d m_X12_tells 67 [(0, .ref 100), (1, .int x1), (2, .int x2), (3, .int x3)] [.int x2, .int ((g_X12_works ((g_X12_isSo x3 S) 102 x3.toInt.toNat) ((g_X12_isSo x3 S) 103 x3.toInt.toNat) (g_X12_isSo x3 S)) 114 0)] (g_X12_works ((g_X12_isSo x3 S) 102 x3.toInt.toNat) ((g_X12_isSo x3 S) 103 x3.toInt.toNat) (g_X12_isSo x3 S)) R _
            refine u_cs (ac := [.int ((g_X12_works ((g_X12_isSo x3 S) 102 x3.toInt.toNat) ((g_X12_isSo x3 S) 103 x3.toInt.toNat) (g_X12_isSo x3 S)) 114 0), .int x2]) (rest := []) rfl (by decide) mt_X12_held (fun _ => rfl) (Nat.le_of_ble_eq_true rfl) (Nat.le_of_ble_eq_true rfl) (fun d' => c_X12_held L xs m d' ((g_X12_works ((g_X12_isSo x3 S) 102 x3.toInt.toNat) ((g_X12_isSo x3 S) 103 x3.toInt.toNat) (g_X12_isSo x3 S)) 114 0) x2 (g_X12_works ((g_X12_isSo x3 S) 102 x3.toInt.toNat) ((g_X12_isSo x3 S) 103 x3.toInt.toNat) (g_X12_isSo x3 S)) R) ?_
            rintro _ _ _ ⟨_, rfl, rfl, rfl, rfl⟩
            show u_P L xs m d m_X12_tells 70 [(0, .ref 100), (1, .int x1), (2, .int x2), (3, .int x3)] [.int (f_X12_held ((g_X12_works ((g_X12_isSo x3 S) 102 x3.toInt.toNat) ((g_X12_isSo x3 S) 103 x3.toInt.toNat) (g_X12_isSo x3 S)) 114 0) x2)] (g_X12_works ((g_X12_isSo x3 S) 102 x3.toInt.toNat) ((g_X12_isSo x3 S) 103 x3.toInt.toNat) (g_X12_isSo x3 S)) R _
            exact u_ret rfl rfl ⟨_, rfl, rfl, hD⟩
          · have hD := hD.2 h9
            show u_P L xs m d m_X12_tells 56 [(0, .ref 100), (1, .int x1), (2, .int x2), (3, .int x3)] [] (g_X12_works ((g_X12_isSo x3 S) 102 x3.toInt.toNat) ((g_X12_isSo x3 S) 103 x3.toInt.toNat) (g_X12_isSo x3 S)) R _
            refine u_st rfl (fun _ => rfl) ?_
            refine u_st rfl (fun _ => rfl) ?_
            show u_P L xs m d m_X12_tells 70 [(0, .ref 100), (1, .int x1), (2, .int x2), (3, .int x3)] [.int (Int32.ofInt 0)] (g_X12_works ((g_X12_isSo x3 S) 102 x3.toInt.toNat) ((g_X12_isSo x3 S) 103 x3.toInt.toNat) (g_X12_isSo x3 S)) R _
            exact u_ret rfl rfl ⟨_, rfl, rfl, hD⟩
        · have hD := hD.2 h5
          show u_P L xs m d m_X12_tells 28 [(0, .ref 100), (1, .int x1), (2, .int x2), (3, .int x3)] [] (g_X12_isSo x3 S) R _
          refine u_st rfl (fun _ => rfl) ?_
          refine u_st rfl (fun _ => rfl) ?_
          refine u_st rfl (fun _ => rfl) ?_
          refine u_lc (b := [(0, .ref 100), (1, .int x1), (2, .int x2), (3, .int (x3 + (Int32.ofInt 1)))]) (show ([3, 0, 1, 2] : List Nat).Nodup by decide) (show ([0, 1, 2, 3] : List Nat).Nodup by decide) (fun i => match i with | 0 => rfl | 1 => rfl | 2 => rfl | 3 => rfl | _ + 4 => rfl) ?_
          exact (ih m hm) d x1 x2 (x3 + (Int32.ofInt 1)) (g_X12_isSo x3 S) hD
set_option maxRecDepth 4000 in
theorem w_X12_tells (L : Nat) (xs : Nat → Int32) {R : v_Rf} (a : Int32) (b : Int32) (H2 : Int32 → Int32 → Int32 → v_Sf → Prop) (K : Int32 → v_Sf → Prop) (k2 : ∀ (x1 : Int32) (x2 : Int32) (x3 : Int32) (S : v_Sf), H2 x1 x2 x3 S → D_X12_tells_2 H2 K x1 x2 x3 S) (n d : Nat) (S : v_Sf) (hD : D_X12_tells a b H2 K S) : u_P L xs n d m_X12_tells 0 (lv_args 0 [.ref 100, .int a, .int b]) [] S R (z_Q R K) := by
  unfold D_X12_tells at hD
  show u_P L xs n d m_X12_tells 0 [(0, .ref 100), (1, .int a), (2, .int b)] [] S R _
  refine u_st rfl (fun _ => rfl) ?_
  refine u_st rfl (fun _ => rfl) ?_
  refine u_lc (b := [(0, .ref 100), (1, .int a), (2, .int b), (3, .int (Int32.ofInt 0))]) (show ([3, 0, 1, 2] : List Nat).Nodup by decide) (show ([0, 1, 2, 3] : List Nat).Nodup by decide) (fun i => match i with | 0 => rfl | 1 => rfl | 2 => rfl | 3 => rfl | _ + 4 => rfl) ?_
  exact (hd_X12_tells L xs a b H2 K k2 n) d a b (Int32.ofInt 0) S hD
noncomputable def r_X12_tells_2 (x1 : Int32) (x2 : Int32) : Nat → Nat → v_Sf → Int32 × v_Sf
  | 0, k2, S => (Int32.ofInt 0, S)
  | r + 1, k2, S => (if (S 99 16) ≤ (z_i k2) then (Int32.ofInt 0, S) else (if ¬ (S 101 (z_i k2).toInt.toNat) = x1 then r_X12_tells_2 x1 x2 r (k2 + 1) S else (if ¬ (f_X12_isSo (z_i k2) S) = 0 then (if ((g_X12_works ((g_X12_isSo (z_i k2) S) 102 (z_i k2).toInt.toNat) ((g_X12_isSo (z_i k2) S) 103 (z_i k2).toInt.toNat) (g_X12_isSo (z_i k2) S)) 115 0) = 0 then (f_X12_held ((g_X12_works ((g_X12_isSo (z_i k2) S) 102 (z_i k2).toInt.toNat) ((g_X12_isSo (z_i k2) S) 103 (z_i k2).toInt.toNat) (g_X12_isSo (z_i k2) S)) 114 0) x2, g_X12_works ((g_X12_isSo (z_i k2) S) 102 (z_i k2).toInt.toNat) ((g_X12_isSo (z_i k2) S) 103 (z_i k2).toInt.toNat) (g_X12_isSo (z_i k2) S)) else (Int32.ofInt 0, g_X12_works ((g_X12_isSo (z_i k2) S) 102 (z_i k2).toInt.toNat) ((g_X12_isSo (z_i k2) S) 103 (z_i k2).toInt.toNat) (g_X12_isSo (z_i k2) S))) else r_X12_tells_2 x1 x2 r (k2 + 1) (g_X12_isSo (z_i k2) S))))
noncomputable def F_X12_tells (a : Int32) (b : Int32) (S : v_Sf) : Int32 × v_Sf := r_X12_tells_2 a b (28 - 0) 0 S
noncomputable def f_X12_tells (a : Int32) (b : Int32) (S : v_Sf) : Int32 := (F_X12_tells a b S).1
noncomputable def g_X12_tells (a : Int32) (b : Int32) (S : v_Sf) : v_Sf := (F_X12_tells a b S).2
theorem c_X12_tells (L : Nat) (xs : Nat → Int32) (n d : Nat) (a : Int32) (b : Int32) (S : v_Sf) (R : v_Rf) : u_P L xs n d m_X12_tells 0 (lv_args 0 [.ref 100, .int a, .int b]) [] S R (z_Q R (fun v S1 => f_X12_tells a b S = v ∧ g_X12_tells a b S = S1)) := by
  refine w_X12_tells L xs a b (fun y1 y2 y3 T => ∃ (k2 : Nat), k2 ≤ 28 ∧ z_i k2 = y3 ∧ a = y1 ∧ b = y2 ∧ r_X12_tells_2 a b (28 - k2) k2 T = F_X12_tells a b S) (fun v S1 => f_X12_tells a b S = v ∧ g_X12_tells a b S = S1) ?_ n d S ?_
  · rintro _ _ _ S1 ⟨k2, hkk, rfl, rfl, rfl, e⟩
    unfold D_X12_tells_2
    rcases Nat.lt_or_ge k2 (28) with hk | hk
    · rw [show 28 - k2 = (28 - (k2 + 1)) + 1 by omega, r_X12_tells_2] at e
      refine ⟨fun q1 => ?_, fun q1 => ?_⟩
      · rw [if_pos q1] at e
        have e1 := congrArg Prod.fst e.symm
        have e2 := congrArg Prod.snd e.symm
        exact ⟨e1, e2⟩
      · intro _ _
        refine ⟨fun q2 => ?_, fun q2 => ?_⟩
        · rw [if_neg q1, if_pos q2] at e
          exact ⟨(k2 + 1), by omega, (z_i1 k2).symm, rfl, rfl, e⟩
        · intro _ _
          refine ⟨fun q3 => ?_, fun q3 => ?_⟩
          · intro _ _
            intro _ _
            intro _ _
            refine ⟨fun q4 => ?_, fun q4 => ?_⟩
            · intro _ _
              rw [if_neg q1, if_neg q2, if_pos q3, if_pos q4] at e
              have e1 := congrArg Prod.fst e.symm
              have e2 := congrArg Prod.snd e.symm
              exact ⟨e1, e2⟩
            · rw [if_neg q1, if_neg q2, if_pos q3, if_neg q4] at e
              have e1 := congrArg Prod.fst e.symm
              have e2 := congrArg Prod.snd e.symm
              exact ⟨e1, e2⟩
          · rw [if_neg q1, if_neg q2, if_neg q3] at e
            exact ⟨(k2 + 1), by omega, (z_i1 k2).symm, rfl, rfl, e⟩
    · rw [show 28 - k2 = 0 by omega, r_X12_tells_2] at e
      refine ⟨fun q5 => ?_, fun q5 => ?_⟩
      · have e1 := congrArg Prod.fst e.symm
        have e2 := congrArg Prod.snd e.symm
        exact ⟨e1, e2⟩
      · intro _ hb
        exact absurd hk (Nat.not_le.mpr (z_ltA (B := 28) hb (by omega)))
  · unfold D_X12_tells
    have e : r_X12_tells_2 a b (28 - 0) 0 S = F_X12_tells a b S := by rw [F_X12_tells]
    exact ⟨0, by omega, rfl, rfl, rfl, e⟩
noncomputable abbrev m_X12_says : g_M := (g_cn 12, yX12_says, cX12_says, 3, (some .boolean), g_look2 ttX12_says)
set_option maxRecDepth 20000 in
theorem mt_X12_says : g_mt 201 = some m_X12_says := rfl
noncomputable def D_X12_says_2  (H2 : Int32 → Int32 → v_Sf → Prop) (K : Int32 → v_Sf → Prop) (x1 : Int32) (x2 : Int32) (S : v_Sf) : Prop := (((S 99 16) ≤ x2 → K (Int32.ofInt 0) S) ∧ (¬ ((S 99 16) ≤ x2) → (0 ≤ x2.toInt → x2.toInt < 28 → (((¬ (S 101 x2.toInt.toNat) = x1) → H2 x1 (x2 + (Int32.ofInt 1)) S) ∧ (¬ (¬ (S 101 x2.toInt.toNat) = x1) → (0 ≤ x2.toInt → x2.toInt < 28 → (((f_X12_isSo x2 S) = 0 → H2 x1 (x2 + (Int32.ofInt 1)) (g_X12_isSo x2 S)) ∧ (¬ ((f_X12_isSo x2 S) = 0) → K (Int32.ofInt 1) (g_X12_isSo x2 S)))))))))
noncomputable def D_X12_says (a : Int32) (H2 : Int32 → Int32 → v_Sf → Prop) (K : Int32 → v_Sf → Prop) (S : v_Sf) : Prop := H2 a (Int32.ofInt 0) S
set_option maxRecDepth 4000 in
theorem hd_X12_says (L : Nat) (xs : Nat → Int32) {R : v_Rf} (a : Int32) (H2 : Int32 → Int32 → v_Sf → Prop) (K : Int32 → v_Sf → Prop) (k2 : ∀ (x1 : Int32) (x2 : Int32) (S : v_Sf), H2 x1 x2 S → D_X12_says_2 H2 K x1 x2 S) : ∀ n, (∀ (d : Nat) (x1 : Int32) (x2 : Int32) (S : v_Sf), H2 x1 x2 S → u_P L xs n d m_X12_says 2 [(0, .ref 100), (1, .int x1), (2, .int x2)] [] S R (z_Q R K)) := by
  intro n
  induction n using Nat.strongRecOn with
  | ind n ih =>
    intro d x1 x2 S hD
    have hD := k2 x1 x2 S hD
    unfold D_X12_says_2 at hD
    show u_P L xs n d m_X12_says 2 [(0, .ref 100), (1, .int x1), (2, .int x2)] [] S R _
    refine u_st1 rfl (fun _ => rfl) (fun m hm => ?_)
    refine u_st rfl (fun _ => rfl) ?_
    show u_P L xs m d m_X12_says 4 [(0, .ref 100), (1, .int x1), (2, .int x2)] [.ref 100, .int x2] S R _
    refine u_getE (v := S 99 16) rfl v_tyM rfl rfl ?_
    show u_P L xs m d m_X12_says 7 [(0, .ref 100), (1, .int x1), (2, .int x2)] [.int (S 99 16), .int x2] S R _
    refine u_ic_ge rfl (fun h1 => ?_) (fun h1 => ?_)
    · have hD := hD.1 h1
      show u_P L xs m d m_X12_says 36 [(0, .ref 100), (1, .int x1), (2, .int x2)] [] S R _
      refine u_st rfl (fun _ => rfl) ?_
      show u_P L xs m d m_X12_says 37 [(0, .ref 100), (1, .int x1), (2, .int x2)] [.int (Int32.ofInt 0)] S R _
      exact u_retb rfl rfl ⟨_, rfl, rfl, hD⟩
    · have hD := hD.2 h1
      show u_P L xs m d m_X12_says 10 [(0, .ref 100), (1, .int x1), (2, .int x2)] [] S R _
      refine u_st rfl (fun _ => rfl) ?_
      show u_P L xs m d m_X12_says 11 [(0, .ref 100), (1, .int x1), (2, .int x2)] [.ref 100] S R _
      refine u_getr rfl v_tyM rfl ?_
      refine u_st rfl (fun _ => rfl) ?_
      show u_P L xs m d m_X12_says 15 [(0, .ref 100), (1, .int x1), (2, .int x2)] [.int x2, .ref 102] S R _
      refine u_ialdE (v := S 101 x2.toInt.toNat) rfl rfl rfl (fun b21 b22 => ?_)
      have hD := hD b21 b22
      show u_P L xs m d m_X12_says 16 [(0, .ref 100), (1, .int x1), (2, .int x2)] [.int (S 101 x2.toInt.toNat)] S R _
      refine u_st rfl (fun _ => rfl) ?_
      show u_P L xs m d m_X12_says 17 [(0, .ref 100), (1, .int x1), (2, .int x2)] [.int x1, .int (S 101 x2.toInt.toNat)] S R _
      refine u_ic_ne rfl (fun h3 => ?_) (fun h3 => ?_)
      · have hD := hD.1 h3
        show u_P L xs m d m_X12_says 30 [(0, .ref 100), (1, .int x1), (2, .int x2)] [] S R _
        refine u_st rfl (fun _ => rfl) ?_
        refine u_st rfl (fun _ => rfl) ?_
        refine u_lc (b := [(0, .ref 100), (1, .int x1), (2, .int (x2 + (Int32.ofInt 1)))]) (show ([2, 0, 1] : List Nat).Nodup by decide) (show ([0, 1, 2] : List Nat).Nodup by decide) (fun i => match i with | 0 => rfl | 1 => rfl | 2 => rfl | _ + 3 => rfl) ?_
        exact (ih m hm) d x1 (x2 + (Int32.ofInt 1)) S hD
      · have hD := hD.2 h3
        show u_P L xs m d m_X12_says 20 [(0, .ref 100), (1, .int x1), (2, .int x2)] [] S R _
        refine u_st rfl (fun _ => rfl) ?_
        refine u_st rfl (fun _ => rfl) ?_
        show u_P L xs m d m_X12_says 22 [(0, .ref 100), (1, .int x1), (2, .int x2)] [.int x2, .ref 100] S R _
        refine u_cv (rest := []) rfl (by decide) mt_X12_isSo v_tyM rfl rfl rfl (Nat.le_of_ble_eq_true rfl) (Nat.le_of_ble_eq_true rfl) (Nat.le_of_ble_eq_true rfl) (fun d' => c_X12_isSo L xs m d' x2 S R) ?_
        rintro _ _ _ ⟨_, rfl, rfl, rfl, rfl, b41, b42⟩
        have hD := hD b41 b42
        show u_P L xs m d m_X12_says 25 [(0, .ref 100), (1, .int x1), (2, .int x2)] [.int (f_X12_isSo x2 S)] (g_X12_isSo x2 S) R _
        refine u_if_eq rfl (fun h5 => ?_) (fun h5 => ?_)
        · have hD := hD.1 h5
          show u_P L xs m d m_X12_says 30 [(0, .ref 100), (1, .int x1), (2, .int x2)] [] (g_X12_isSo x2 S) R _
          refine u_st rfl (fun _ => rfl) ?_
          refine u_st rfl (fun _ => rfl) ?_
          refine u_lc (b := [(0, .ref 100), (1, .int x1), (2, .int (x2 + (Int32.ofInt 1)))]) (show ([2, 0, 1] : List Nat).Nodup by decide) (show ([0, 1, 2] : List Nat).Nodup by decide) (fun i => match i with | 0 => rfl | 1 => rfl | 2 => rfl | _ + 3 => rfl) ?_
          exact (ih m hm) d x1 (x2 + (Int32.ofInt 1)) (g_X12_isSo x2 S) hD
        · have hD := hD.2 h5
          show u_P L xs m d m_X12_says 28 [(0, .ref 100), (1, .int x1), (2, .int x2)] [] (g_X12_isSo x2 S) R _
          refine u_st rfl (fun _ => rfl) ?_
          show u_P L xs m d m_X12_says 29 [(0, .ref 100), (1, .int x1), (2, .int x2)] [.int (Int32.ofInt 1)] (g_X12_isSo x2 S) R _
          exact u_retb rfl rfl ⟨_, rfl, rfl, hD⟩
set_option maxRecDepth 4000 in
theorem w_X12_says (L : Nat) (xs : Nat → Int32) {R : v_Rf} (a : Int32) (H2 : Int32 → Int32 → v_Sf → Prop) (K : Int32 → v_Sf → Prop) (k2 : ∀ (x1 : Int32) (x2 : Int32) (S : v_Sf), H2 x1 x2 S → D_X12_says_2 H2 K x1 x2 S) (n d : Nat) (S : v_Sf) (hD : D_X12_says a H2 K S) : u_P L xs n d m_X12_says 0 (lv_args 0 [.ref 100, .int a]) [] S R (z_Q R K) := by
  unfold D_X12_says at hD
  show u_P L xs n d m_X12_says 0 [(0, .ref 100), (1, .int a)] [] S R _
  refine u_st rfl (fun _ => rfl) ?_
  refine u_st rfl (fun _ => rfl) ?_
  refine u_lc (b := [(0, .ref 100), (1, .int a), (2, .int (Int32.ofInt 0))]) (show ([2, 0, 1] : List Nat).Nodup by decide) (show ([0, 1, 2] : List Nat).Nodup by decide) (fun i => match i with | 0 => rfl | 1 => rfl | 2 => rfl | _ + 3 => rfl) ?_
  exact (hd_X12_says L xs a H2 K k2 n) d a (Int32.ofInt 0) S hD
noncomputable def r_X12_says_2 (x1 : Int32) : Nat → Nat → v_Sf → Int32 × v_Sf
  | 0, k2, S => (Int32.ofInt 0, S)
  | r + 1, k2, S => (if (S 99 16) ≤ (z_i k2) then (Int32.ofInt 0, S) else (if ¬ (S 101 (z_i k2).toInt.toNat) = x1 then r_X12_says_2 x1 r (k2 + 1) S else (if (f_X12_isSo (z_i k2) S) = 0 then r_X12_says_2 x1 r (k2 + 1) (g_X12_isSo (z_i k2) S) else (Int32.ofInt 1, g_X12_isSo (z_i k2) S))))
noncomputable def F_X12_says (a : Int32) (S : v_Sf) : Int32 × v_Sf := r_X12_says_2 a (28 - 0) 0 S
noncomputable def f_X12_says (a : Int32) (S : v_Sf) : Int32 := (F_X12_says a S).1
noncomputable def g_X12_says (a : Int32) (S : v_Sf) : v_Sf := (F_X12_says a S).2
theorem c_X12_says (L : Nat) (xs : Nat → Int32) (n d : Nat) (a : Int32) (S : v_Sf) (R : v_Rf) : u_P L xs n d m_X12_says 0 (lv_args 0 [.ref 100, .int a]) [] S R (z_Q R (fun v S1 => f_X12_says a S = v ∧ g_X12_says a S = S1)) := by
  refine w_X12_says L xs a (fun y1 y2 T => ∃ (k2 : Nat), k2 ≤ 28 ∧ z_i k2 = y2 ∧ a = y1 ∧ r_X12_says_2 a (28 - k2) k2 T = F_X12_says a S) (fun v S1 => f_X12_says a S = v ∧ g_X12_says a S = S1) ?_ n d S ?_
  · rintro _ _ S1 ⟨k2, hkk, rfl, rfl, e⟩
    unfold D_X12_says_2
    rcases Nat.lt_or_ge k2 (28) with hk | hk
    · rw [show 28 - k2 = (28 - (k2 + 1)) + 1 by omega, r_X12_says_2] at e
      refine ⟨fun q1 => ?_, fun q1 => ?_⟩
      · rw [if_pos q1] at e
        have e1 := congrArg Prod.fst e.symm
        have e2 := congrArg Prod.snd e.symm
        exact ⟨e1, e2⟩
      · intro _ _
        refine ⟨fun q2 => ?_, fun q2 => ?_⟩
        · rw [if_neg q1, if_pos q2] at e
          exact ⟨(k2 + 1), by omega, (z_i1 k2).symm, rfl, e⟩
        · intro _ _
          refine ⟨fun q3 => ?_, fun q3 => ?_⟩
          · rw [if_neg q1, if_neg q2, if_pos q3] at e
            exact ⟨(k2 + 1), by omega, (z_i1 k2).symm, rfl, e⟩
          · rw [if_neg q1, if_neg q2, if_neg q3] at e
            have e1 := congrArg Prod.fst e.symm
            have e2 := congrArg Prod.snd e.symm
            exact ⟨e1, e2⟩
    · rw [show 28 - k2 = 0 by omega, r_X12_says_2] at e
      refine ⟨fun q4 => ?_, fun q4 => ?_⟩
      · have e1 := congrArg Prod.fst e.symm
        have e2 := congrArg Prod.snd e.symm
        exact ⟨e1, e2⟩
      · intro _ hb
        exact absurd hk (Nat.not_le.mpr (z_ltA (B := 28) hb (by omega)))
  · unfold D_X12_says
    have e : r_X12_says_2 a (28 - 0) 0 S = F_X12_says a S := by rw [F_X12_says]
    exact ⟨0, by omega, rfl, rfl, e⟩
noncomputable abbrev m_X12_gustStands : g_M := (g_cn 12, yX12_gustStands, cX12_gustStands, 2, none, g_look2 ttX12_gustStands)
set_option maxRecDepth 20000 in
theorem mt_X12_gustStands : g_mt 203 = some m_X12_gustStands := rfl
noncomputable def g_X12_gustStands (g : Int32) (S : v_Sf) : v_Sf := (if ¬ ((g_X12_nothingStands S) 118 g.toInt.toNat) = (Int32.ofInt (-1)) then z_s (z_s (z_s (z_s (z_s (z_s (g_X12_nothingStands S) 99 27 ((g_X12_nothingStands S) 117 g.toInt.toNat)) 99 28 ((g_X12_nothingStands S) 118 g.toInt.toNat)) 99 29 ((g_X12_nothingStands S) 119 g.toInt.toNat)) 99 30 (f_X12_sizeOf ((g_X12_nothingStands S) 122 g.toInt.toNat))) 99 31 ((g_X12_nothingStands S) 124 (((g_X12_nothingStands S) 120 g.toInt.toNat).toInt.toNat))) 99 32 ((g_X12_nothingStands S) 120 g.toInt.toNat) else z_s (z_s (z_s (z_s (z_s (z_s (g_X12_nothingStands S) 99 27 ((g_X12_nothingStands S) 117 g.toInt.toNat)) 99 28 (Int32.ofInt 8)) 99 29 ((g_X12_nothingStands S) 119 g.toInt.toNat)) 99 30 (f_X12_sizeOf ((g_X12_nothingStands S) 122 g.toInt.toNat))) 99 31 ((g_X12_nothingStands S) 124 (((g_X12_nothingStands S) 120 g.toInt.toNat).toInt.toNat))) 99 32 ((g_X12_nothingStands S) 120 g.toInt.toNat))
set_option maxRecDepth 4000 in
theorem c_X12_gustStands (L : Nat) (xs : Nat → Int32) (n d : Nat) (g : Int32) (S : v_Sf) (R : v_Rf) : u_P L xs n d m_X12_gustStands 0 (lv_args 0 [.ref 100, .int g]) [] S R (z_V R (fun S1 => g_X12_gustStands g S = S1)) := by
  show u_P L xs n d m_X12_gustStands 0 [(0, .ref 100), (1, .int g)] [] S R _
  refine u_st rfl (fun _ => rfl) ?_
  show u_P L xs n d m_X12_gustStands 1 [(0, .ref 100), (1, .int g)] [.ref 100] S R _
  refine u_cv (rest := []) rfl (by decide) mt_X12_nothingStands v_tyM rfl rfl rfl (Nat.le_of_ble_eq_true rfl) (Nat.le_of_ble_eq_true rfl) (Nat.le_of_ble_eq_true rfl) (fun d' => c_X12_nothingStands L xs n d' S R) ?_
  rintro _ _ _ ⟨rfl, rfl, rfl⟩
  refine u_st rfl (fun _ => rfl) ?_
  refine u_st rfl (fun _ => rfl) ?_
  show u_P L xs n d m_X12_gustStands 6 [(0, .ref 100), (1, .int g)] [.ref 100, .ref 100] (g_X12_nothingStands S) R _
  refine u_getr rfl v_tyM rfl ?_
  refine u_st rfl (fun _ => rfl) ?_
  show u_P L xs n d m_X12_gustStands 10 [(0, .ref 100), (1, .int g)] [.int g, .ref 118, .ref 100] (g_X12_nothingStands S) R _
  refine u_ialdE (v := (g_X12_nothingStands S) 117 g.toInt.toNat) rfl rfl rfl (fun b11 b12 => ?_)
  show u_P L xs n d m_X12_gustStands 11 [(0, .ref 100), (1, .int g)] [.int ((g_X12_nothingStands S) 117 g.toInt.toNat), .ref 100] (g_X12_nothingStands S) R _
  refine u_put rfl v_tyM rfl ?_
  refine u_st rfl (fun _ => rfl) ?_
  refine u_st rfl (fun _ => rfl) ?_
  show u_P L xs n d m_X12_gustStands 16 [(0, .ref 100), (1, .int g)] [.ref 100, .ref 100] (z_s (g_X12_nothingStands S) 99 27 ((g_X12_nothingStands S) 117 g.toInt.toNat)) R _
  refine u_getr rfl v_tyM rfl ?_
  refine u_st rfl (fun _ => rfl) ?_
  show u_P L xs n d m_X12_gustStands 20 [(0, .ref 100), (1, .int g)] [.int g, .ref 119, .ref 100] (z_s (g_X12_nothingStands S) 99 27 ((g_X12_nothingStands S) 117 g.toInt.toNat)) R _
  refine u_ialdE (v := (g_X12_nothingStands S) 118 g.toInt.toNat) rfl rfl (z_sn (fun h => absurd h.1 (by decide))) (fun b21 b22 => ?_)
  refine u_st rfl (fun _ => rfl) ?_
  show u_P L xs n d m_X12_gustStands 22 [(0, .ref 100), (1, .int g)] [.int (Int32.ofInt (-1)), .int ((g_X12_nothingStands S) 118 g.toInt.toNat), .ref 100] (z_s (g_X12_nothingStands S) 99 27 ((g_X12_nothingStands S) 117 g.toInt.toNat)) R _
  refine u_ic_ne rfl (fun h3 => ?_) (fun h3 => ?_)
  · show u_P L xs n d m_X12_gustStands 30 [(0, .ref 100), (1, .int g)] [.ref 100] (z_s (g_X12_nothingStands S) 99 27 ((g_X12_nothingStands S) 117 g.toInt.toNat)) R _
    refine u_st rfl (fun _ => rfl) ?_
    show u_P L xs n d m_X12_gustStands 31 [(0, .ref 100), (1, .int g)] [.ref 100, .ref 100] (z_s (g_X12_nothingStands S) 99 27 ((g_X12_nothingStands S) 117 g.toInt.toNat)) R _
    refine u_getr rfl v_tyM rfl ?_
    refine u_st rfl (fun _ => rfl) ?_
    show u_P L xs n d m_X12_gustStands 35 [(0, .ref 100), (1, .int g)] [.int g, .ref 119, .ref 100] (z_s (g_X12_nothingStands S) 99 27 ((g_X12_nothingStands S) 117 g.toInt.toNat)) R _
    refine u_ialdE (v := (g_X12_nothingStands S) 118 g.toInt.toNat) rfl rfl (z_sn (fun h => absurd h.1 (by decide))) (fun b41 b42 => ?_)
    show u_P L xs n d m_X12_gustStands 36 [(0, .ref 100), (1, .int g)] [.int ((g_X12_nothingStands S) 118 g.toInt.toNat), .ref 100] (z_s (g_X12_nothingStands S) 99 27 ((g_X12_nothingStands S) 117 g.toInt.toNat)) R _
    refine u_put rfl v_tyM rfl ?_
    refine u_st rfl (fun _ => rfl) ?_
    refine u_st rfl (fun _ => rfl) ?_
    show u_P L xs n d m_X12_gustStands 41 [(0, .ref 100), (1, .int g)] [.ref 100, .ref 100] (z_s (z_s (g_X12_nothingStands S) 99 27 ((g_X12_nothingStands S) 117 g.toInt.toNat)) 99 28 ((g_X12_nothingStands S) 118 g.toInt.toNat)) R _
    refine u_getr rfl v_tyM rfl ?_
    refine u_st rfl (fun _ => rfl) ?_
    show u_P L xs n d m_X12_gustStands 45 [(0, .ref 100), (1, .int g)] [.int g, .ref 120, .ref 100] (z_s (z_s (g_X12_nothingStands S) 99 27 ((g_X12_nothingStands S) 117 g.toInt.toNat)) 99 28 ((g_X12_nothingStands S) 118 g.toInt.toNat)) R _
    refine u_ialdE (v := (g_X12_nothingStands S) 119 g.toInt.toNat) rfl rfl ((z_sn (fun h => absurd h.1 (by decide))).trans (z_sn (fun h => absurd h.1 (by decide)))) (fun b51 b52 => ?_)
    show u_P L xs n d m_X12_gustStands 46 [(0, .ref 100), (1, .int g)] [.int ((g_X12_nothingStands S) 119 g.toInt.toNat), .ref 100] (z_s (z_s (g_X12_nothingStands S) 99 27 ((g_X12_nothingStands S) 117 g.toInt.toNat)) 99 28 ((g_X12_nothingStands S) 118 g.toInt.toNat)) R _
    refine u_put rfl v_tyM rfl ?_
    refine u_st rfl (fun _ => rfl) ?_
    refine u_st rfl (fun _ => rfl) ?_
    show u_P L xs n d m_X12_gustStands 51 [(0, .ref 100), (1, .int g)] [.ref 100, .ref 100] (z_s (z_s (z_s (g_X12_nothingStands S) 99 27 ((g_X12_nothingStands S) 117 g.toInt.toNat)) 99 28 ((g_X12_nothingStands S) 118 g.toInt.toNat)) 99 29 ((g_X12_nothingStands S) 119 g.toInt.toNat)) R _
    refine u_getr rfl v_tyM rfl ?_
    refine u_st rfl (fun _ => rfl) ?_
    show u_P L xs n d m_X12_gustStands 55 [(0, .ref 100), (1, .int g)] [.int g, .ref 123, .ref 100] (z_s (z_s (z_s (g_X12_nothingStands S) 99 27 ((g_X12_nothingStands S) 117 g.toInt.toNat)) 99 28 ((g_X12_nothingStands S) 118 g.toInt.toNat)) 99 29 ((g_X12_nothingStands S) 119 g.toInt.toNat)) R _
    refine u_ialdE (v := (g_X12_nothingStands S) 122 g.toInt.toNat) rfl rfl ((z_sn (fun h => absurd h.1 (by decide))).trans ((z_sn (fun h => absurd h.1 (by decide))).trans (z_sn (fun h => absurd h.1 (by decide))))) (fun b61 b62 => ?_)
    show u_P L xs n d m_X12_gustStands 56 [(0, .ref 100), (1, .int g)] [.int ((g_X12_nothingStands S) 122 g.toInt.toNat), .ref 100] (z_s (z_s (z_s (g_X12_nothingStands S) 99 27 ((g_X12_nothingStands S) 117 g.toInt.toNat)) 99 28 ((g_X12_nothingStands S) 118 g.toInt.toNat)) 99 29 ((g_X12_nothingStands S) 119 g.toInt.toNat)) R _
    refine u_cs (ac := [.int ((g_X12_nothingStands S) 122 g.toInt.toNat)]) (rest := [.ref 100]) rfl (by decide) mt_X12_sizeOf (fun _ => rfl) (Nat.le_of_ble_eq_true rfl) (Nat.le_of_ble_eq_true rfl) (fun d' => c_X12_sizeOf L xs n d' ((g_X12_nothingStands S) 122 g.toInt.toNat) (z_s (z_s (z_s (g_X12_nothingStands S) 99 27 ((g_X12_nothingStands S) 117 g.toInt.toNat)) 99 28 ((g_X12_nothingStands S) 118 g.toInt.toNat)) 99 29 ((g_X12_nothingStands S) 119 g.toInt.toNat)) R) ?_
    rintro _ _ _ ⟨_, rfl, rfl, rfl, rfl⟩
    show u_P L xs n d m_X12_gustStands 59 [(0, .ref 100), (1, .int g)] [.int (f_X12_sizeOf ((g_X12_nothingStands S) 122 g.toInt.toNat)), .ref 100] (z_s (z_s (z_s (g_X12_nothingStands S) 99 27 ((g_X12_nothingStands S) 117 g.toInt.toNat)) 99 28 ((g_X12_nothingStands S) 118 g.toInt.toNat)) 99 29 ((g_X12_nothingStands S) 119 g.toInt.toNat)) R _
    refine u_put rfl v_tyM rfl ?_
    refine u_st rfl (fun _ => rfl) ?_
    refine u_st rfl (fun _ => rfl) ?_
    show u_P L xs n d m_X12_gustStands 64 [(0, .ref 100), (1, .int g)] [.ref 100, .ref 100] (z_s (z_s (z_s (z_s (g_X12_nothingStands S) 99 27 ((g_X12_nothingStands S) 117 g.toInt.toNat)) 99 28 ((g_X12_nothingStands S) 118 g.toInt.toNat)) 99 29 ((g_X12_nothingStands S) 119 g.toInt.toNat)) 99 30 (f_X12_sizeOf ((g_X12_nothingStands S) 122 g.toInt.toNat))) R _
    refine u_getr rfl v_tyM rfl ?_
    refine u_st rfl (fun _ => rfl) ?_
    show u_P L xs n d m_X12_gustStands 68 [(0, .ref 100), (1, .int g)] [.ref 100, .ref 125, .ref 100] (z_s (z_s (z_s (z_s (g_X12_nothingStands S) 99 27 ((g_X12_nothingStands S) 117 g.toInt.toNat)) 99 28 ((g_X12_nothingStands S) 118 g.toInt.toNat)) 99 29 ((g_X12_nothingStands S) 119 g.toInt.toNat)) 99 30 (f_X12_sizeOf ((g_X12_nothingStands S) 122 g.toInt.toNat))) R _
    refine u_getr rfl v_tyM rfl ?_
    refine u_st rfl (fun _ => rfl) ?_
    show u_P L xs n d m_X12_gustStands 72 [(0, .ref 100), (1, .int g)] [.int g, .ref 121, .ref 125, .ref 100] (z_s (z_s (z_s (z_s (g_X12_nothingStands S) 99 27 ((g_X12_nothingStands S) 117 g.toInt.toNat)) 99 28 ((g_X12_nothingStands S) 118 g.toInt.toNat)) 99 29 ((g_X12_nothingStands S) 119 g.toInt.toNat)) 99 30 (f_X12_sizeOf ((g_X12_nothingStands S) 122 g.toInt.toNat))) R _
    refine u_ialdE (v := (g_X12_nothingStands S) 120 g.toInt.toNat) rfl rfl ((z_sn (fun h => absurd h.1 (by decide))).trans ((z_sn (fun h => absurd h.1 (by decide))).trans ((z_sn (fun h => absurd h.1 (by decide))).trans (z_sn (fun h => absurd h.1 (by decide)))))) (fun b71 b72 => ?_)
    show u_P L xs n d m_X12_gustStands 73 [(0, .ref 100), (1, .int g)] [.int ((g_X12_nothingStands S) 120 g.toInt.toNat), .ref 125, .ref 100] (z_s (z_s (z_s (z_s (g_X12_nothingStands S) 99 27 ((g_X12_nothingStands S) 117 g.toInt.toNat)) 99 28 ((g_X12_nothingStands S) 118 g.toInt.toNat)) 99 29 ((g_X12_nothingStands S) 119 g.toInt.toNat)) 99 30 (f_X12_sizeOf ((g_X12_nothingStands S) 122 g.toInt.toNat))) R _
    refine u_ialdE (v := (g_X12_nothingStands S) 124 (((g_X12_nothingStands S) 120 g.toInt.toNat).toInt.toNat)) rfl rfl ((z_sn (fun h => absurd h.1 (by decide))).trans ((z_sn (fun h => absurd h.1 (by decide))).trans ((z_sn (fun h => absurd h.1 (by decide))).trans (z_sn (fun h => absurd h.1 (by decide)))))) (fun b81 b82 => ?_)
    show u_P L xs n d m_X12_gustStands 74 [(0, .ref 100), (1, .int g)] [.int ((g_X12_nothingStands S) 124 (((g_X12_nothingStands S) 120 g.toInt.toNat).toInt.toNat)), .ref 100] (z_s (z_s (z_s (z_s (g_X12_nothingStands S) 99 27 ((g_X12_nothingStands S) 117 g.toInt.toNat)) 99 28 ((g_X12_nothingStands S) 118 g.toInt.toNat)) 99 29 ((g_X12_nothingStands S) 119 g.toInt.toNat)) 99 30 (f_X12_sizeOf ((g_X12_nothingStands S) 122 g.toInt.toNat))) R _
    refine u_put rfl v_tyM rfl ?_
    refine u_st rfl (fun _ => rfl) ?_
    refine u_st rfl (fun _ => rfl) ?_
    show u_P L xs n d m_X12_gustStands 79 [(0, .ref 100), (1, .int g)] [.ref 100, .ref 100] (z_s (z_s (z_s (z_s (z_s (g_X12_nothingStands S) 99 27 ((g_X12_nothingStands S) 117 g.toInt.toNat)) 99 28 ((g_X12_nothingStands S) 118 g.toInt.toNat)) 99 29 ((g_X12_nothingStands S) 119 g.toInt.toNat)) 99 30 (f_X12_sizeOf ((g_X12_nothingStands S) 122 g.toInt.toNat))) 99 31 ((g_X12_nothingStands S) 124 (((g_X12_nothingStands S) 120 g.toInt.toNat).toInt.toNat))) R _
    refine u_getr rfl v_tyM rfl ?_
    refine u_st rfl (fun _ => rfl) ?_
    show u_P L xs n d m_X12_gustStands 83 [(0, .ref 100), (1, .int g)] [.int g, .ref 121, .ref 100] (z_s (z_s (z_s (z_s (z_s (g_X12_nothingStands S) 99 27 ((g_X12_nothingStands S) 117 g.toInt.toNat)) 99 28 ((g_X12_nothingStands S) 118 g.toInt.toNat)) 99 29 ((g_X12_nothingStands S) 119 g.toInt.toNat)) 99 30 (f_X12_sizeOf ((g_X12_nothingStands S) 122 g.toInt.toNat))) 99 31 ((g_X12_nothingStands S) 124 (((g_X12_nothingStands S) 120 g.toInt.toNat).toInt.toNat))) R _
    refine u_ialdE (v := (g_X12_nothingStands S) 120 g.toInt.toNat) rfl rfl ((z_sn (fun h => absurd h.1 (by decide))).trans ((z_sn (fun h => absurd h.1 (by decide))).trans ((z_sn (fun h => absurd h.1 (by decide))).trans ((z_sn (fun h => absurd h.1 (by decide))).trans (z_sn (fun h => absurd h.1 (by decide))))))) (fun b91 b92 => ?_)
    show u_P L xs n d m_X12_gustStands 84 [(0, .ref 100), (1, .int g)] [.int ((g_X12_nothingStands S) 120 g.toInt.toNat), .ref 100] (z_s (z_s (z_s (z_s (z_s (g_X12_nothingStands S) 99 27 ((g_X12_nothingStands S) 117 g.toInt.toNat)) 99 28 ((g_X12_nothingStands S) 118 g.toInt.toNat)) 99 29 ((g_X12_nothingStands S) 119 g.toInt.toNat)) 99 30 (f_X12_sizeOf ((g_X12_nothingStands S) 122 g.toInt.toNat))) 99 31 ((g_X12_nothingStands S) 124 (((g_X12_nothingStands S) 120 g.toInt.toNat).toInt.toNat))) R _
    refine u_put rfl v_tyM rfl ?_
    show u_P L xs n d m_X12_gustStands 87 [(0, .ref 100), (1, .int g)] [] (z_s (z_s (z_s (z_s (z_s (z_s (g_X12_nothingStands S) 99 27 ((g_X12_nothingStands S) 117 g.toInt.toNat)) 99 28 ((g_X12_nothingStands S) 118 g.toInt.toNat)) 99 29 ((g_X12_nothingStands S) 119 g.toInt.toNat)) 99 30 (f_X12_sizeOf ((g_X12_nothingStands S) 122 g.toInt.toNat))) 99 31 ((g_X12_nothingStands S) 124 (((g_X12_nothingStands S) 120 g.toInt.toNat).toInt.toNat))) 99 32 ((g_X12_nothingStands S) 120 g.toInt.toNat)) R _
    exact u_ret rfl rfl ⟨rfl, rfl, by rw [g_X12_gustStands, if_pos h3]⟩
  · show u_P L xs n d m_X12_gustStands 25 [(0, .ref 100), (1, .int g)] [.ref 100] (z_s (g_X12_nothingStands S) 99 27 ((g_X12_nothingStands S) 117 g.toInt.toNat)) R _
    refine u_st rfl (fun _ => rfl) ?_
    refine u_st rfl (fun _ => rfl) ?_
    show u_P L xs n d m_X12_gustStands 36 [(0, .ref 100), (1, .int g)] [.int (Int32.ofInt 8), .ref 100] (z_s (g_X12_nothingStands S) 99 27 ((g_X12_nothingStands S) 117 g.toInt.toNat)) R _
    refine u_put rfl v_tyM rfl ?_
    refine u_st rfl (fun _ => rfl) ?_
    refine u_st rfl (fun _ => rfl) ?_
    show u_P L xs n d m_X12_gustStands 41 [(0, .ref 100), (1, .int g)] [.ref 100, .ref 100] (z_s (z_s (g_X12_nothingStands S) 99 27 ((g_X12_nothingStands S) 117 g.toInt.toNat)) 99 28 (Int32.ofInt 8)) R _
    refine u_getr rfl v_tyM rfl ?_
    refine u_st rfl (fun _ => rfl) ?_
    show u_P L xs n d m_X12_gustStands 45 [(0, .ref 100), (1, .int g)] [.int g, .ref 120, .ref 100] (z_s (z_s (g_X12_nothingStands S) 99 27 ((g_X12_nothingStands S) 117 g.toInt.toNat)) 99 28 (Int32.ofInt 8)) R _
    refine u_ialdE (v := (g_X12_nothingStands S) 119 g.toInt.toNat) rfl rfl ((z_sn (fun h => absurd h.1 (by decide))).trans (z_sn (fun h => absurd h.1 (by decide)))) (fun b101 b102 => ?_)
    show u_P L xs n d m_X12_gustStands 46 [(0, .ref 100), (1, .int g)] [.int ((g_X12_nothingStands S) 119 g.toInt.toNat), .ref 100] (z_s (z_s (g_X12_nothingStands S) 99 27 ((g_X12_nothingStands S) 117 g.toInt.toNat)) 99 28 (Int32.ofInt 8)) R _
    refine u_put rfl v_tyM rfl ?_
    refine u_st rfl (fun _ => rfl) ?_
    refine u_st rfl (fun _ => rfl) ?_
    show u_P L xs n d m_X12_gustStands 51 [(0, .ref 100), (1, .int g)] [.ref 100, .ref 100] (z_s (z_s (z_s (g_X12_nothingStands S) 99 27 ((g_X12_nothingStands S) 117 g.toInt.toNat)) 99 28 (Int32.ofInt 8)) 99 29 ((g_X12_nothingStands S) 119 g.toInt.toNat)) R _
    refine u_getr rfl v_tyM rfl ?_
    refine u_st rfl (fun _ => rfl) ?_
    show u_P L xs n d m_X12_gustStands 55 [(0, .ref 100), (1, .int g)] [.int g, .ref 123, .ref 100] (z_s (z_s (z_s (g_X12_nothingStands S) 99 27 ((g_X12_nothingStands S) 117 g.toInt.toNat)) 99 28 (Int32.ofInt 8)) 99 29 ((g_X12_nothingStands S) 119 g.toInt.toNat)) R _
    refine u_ialdE (v := (g_X12_nothingStands S) 122 g.toInt.toNat) rfl rfl ((z_sn (fun h => absurd h.1 (by decide))).trans ((z_sn (fun h => absurd h.1 (by decide))).trans (z_sn (fun h => absurd h.1 (by decide))))) (fun b111 b112 => ?_)
    show u_P L xs n d m_X12_gustStands 56 [(0, .ref 100), (1, .int g)] [.int ((g_X12_nothingStands S) 122 g.toInt.toNat), .ref 100] (z_s (z_s (z_s (g_X12_nothingStands S) 99 27 ((g_X12_nothingStands S) 117 g.toInt.toNat)) 99 28 (Int32.ofInt 8)) 99 29 ((g_X12_nothingStands S) 119 g.toInt.toNat)) R _
    refine u_cs (ac := [.int ((g_X12_nothingStands S) 122 g.toInt.toNat)]) (rest := [.ref 100]) rfl (by decide) mt_X12_sizeOf (fun _ => rfl) (Nat.le_of_ble_eq_true rfl) (Nat.le_of_ble_eq_true rfl) (fun d' => c_X12_sizeOf L xs n d' ((g_X12_nothingStands S) 122 g.toInt.toNat) (z_s (z_s (z_s (g_X12_nothingStands S) 99 27 ((g_X12_nothingStands S) 117 g.toInt.toNat)) 99 28 (Int32.ofInt 8)) 99 29 ((g_X12_nothingStands S) 119 g.toInt.toNat)) R) ?_
    rintro _ _ _ ⟨_, rfl, rfl, rfl, rfl⟩
    show u_P L xs n d m_X12_gustStands 59 [(0, .ref 100), (1, .int g)] [.int (f_X12_sizeOf ((g_X12_nothingStands S) 122 g.toInt.toNat)), .ref 100] (z_s (z_s (z_s (g_X12_nothingStands S) 99 27 ((g_X12_nothingStands S) 117 g.toInt.toNat)) 99 28 (Int32.ofInt 8)) 99 29 ((g_X12_nothingStands S) 119 g.toInt.toNat)) R _
    refine u_put rfl v_tyM rfl ?_
    refine u_st rfl (fun _ => rfl) ?_
    refine u_st rfl (fun _ => rfl) ?_
    show u_P L xs n d m_X12_gustStands 64 [(0, .ref 100), (1, .int g)] [.ref 100, .ref 100] (z_s (z_s (z_s (z_s (g_X12_nothingStands S) 99 27 ((g_X12_nothingStands S) 117 g.toInt.toNat)) 99 28 (Int32.ofInt 8)) 99 29 ((g_X12_nothingStands S) 119 g.toInt.toNat)) 99 30 (f_X12_sizeOf ((g_X12_nothingStands S) 122 g.toInt.toNat))) R _
    refine u_getr rfl v_tyM rfl ?_
    refine u_st rfl (fun _ => rfl) ?_
    show u_P L xs n d m_X12_gustStands 68 [(0, .ref 100), (1, .int g)] [.ref 100, .ref 125, .ref 100] (z_s (z_s (z_s (z_s (g_X12_nothingStands S) 99 27 ((g_X12_nothingStands S) 117 g.toInt.toNat)) 99 28 (Int32.ofInt 8)) 99 29 ((g_X12_nothingStands S) 119 g.toInt.toNat)) 99 30 (f_X12_sizeOf ((g_X12_nothingStands S) 122 g.toInt.toNat))) R _
    refine u_getr rfl v_tyM rfl ?_
    refine u_st rfl (fun _ => rfl) ?_
    show u_P L xs n d m_X12_gustStands 72 [(0, .ref 100), (1, .int g)] [.int g, .ref 121, .ref 125, .ref 100] (z_s (z_s (z_s (z_s (g_X12_nothingStands S) 99 27 ((g_X12_nothingStands S) 117 g.toInt.toNat)) 99 28 (Int32.ofInt 8)) 99 29 ((g_X12_nothingStands S) 119 g.toInt.toNat)) 99 30 (f_X12_sizeOf ((g_X12_nothingStands S) 122 g.toInt.toNat))) R _
    refine u_ialdE (v := (g_X12_nothingStands S) 120 g.toInt.toNat) rfl rfl ((z_sn (fun h => absurd h.1 (by decide))).trans ((z_sn (fun h => absurd h.1 (by decide))).trans ((z_sn (fun h => absurd h.1 (by decide))).trans (z_sn (fun h => absurd h.1 (by decide)))))) (fun b121 b122 => ?_)
    show u_P L xs n d m_X12_gustStands 73 [(0, .ref 100), (1, .int g)] [.int ((g_X12_nothingStands S) 120 g.toInt.toNat), .ref 125, .ref 100] (z_s (z_s (z_s (z_s (g_X12_nothingStands S) 99 27 ((g_X12_nothingStands S) 117 g.toInt.toNat)) 99 28 (Int32.ofInt 8)) 99 29 ((g_X12_nothingStands S) 119 g.toInt.toNat)) 99 30 (f_X12_sizeOf ((g_X12_nothingStands S) 122 g.toInt.toNat))) R _
    refine u_ialdE (v := (g_X12_nothingStands S) 124 (((g_X12_nothingStands S) 120 g.toInt.toNat).toInt.toNat)) rfl rfl ((z_sn (fun h => absurd h.1 (by decide))).trans ((z_sn (fun h => absurd h.1 (by decide))).trans ((z_sn (fun h => absurd h.1 (by decide))).trans (z_sn (fun h => absurd h.1 (by decide)))))) (fun b131 b132 => ?_)
    show u_P L xs n d m_X12_gustStands 74 [(0, .ref 100), (1, .int g)] [.int ((g_X12_nothingStands S) 124 (((g_X12_nothingStands S) 120 g.toInt.toNat).toInt.toNat)), .ref 100] (z_s (z_s (z_s (z_s (g_X12_nothingStands S) 99 27 ((g_X12_nothingStands S) 117 g.toInt.toNat)) 99 28 (Int32.ofInt 8)) 99 29 ((g_X12_nothingStands S) 119 g.toInt.toNat)) 99 30 (f_X12_sizeOf ((g_X12_nothingStands S) 122 g.toInt.toNat))) R _
    refine u_put rfl v_tyM rfl ?_
    refine u_st rfl (fun _ => rfl) ?_
    refine u_st rfl (fun _ => rfl) ?_
    show u_P L xs n d m_X12_gustStands 79 [(0, .ref 100), (1, .int g)] [.ref 100, .ref 100] (z_s (z_s (z_s (z_s (z_s (g_X12_nothingStands S) 99 27 ((g_X12_nothingStands S) 117 g.toInt.toNat)) 99 28 (Int32.ofInt 8)) 99 29 ((g_X12_nothingStands S) 119 g.toInt.toNat)) 99 30 (f_X12_sizeOf ((g_X12_nothingStands S) 122 g.toInt.toNat))) 99 31 ((g_X12_nothingStands S) 124 (((g_X12_nothingStands S) 120 g.toInt.toNat).toInt.toNat))) R _
    refine u_getr rfl v_tyM rfl ?_
    refine u_st rfl (fun _ => rfl) ?_
    show u_P L xs n d m_X12_gustStands 83 [(0, .ref 100), (1, .int g)] [.int g, .ref 121, .ref 100] (z_s (z_s (z_s (z_s (z_s (g_X12_nothingStands S) 99 27 ((g_X12_nothingStands S) 117 g.toInt.toNat)) 99 28 (Int32.ofInt 8)) 99 29 ((g_X12_nothingStands S) 119 g.toInt.toNat)) 99 30 (f_X12_sizeOf ((g_X12_nothingStands S) 122 g.toInt.toNat))) 99 31 ((g_X12_nothingStands S) 124 (((g_X12_nothingStands S) 120 g.toInt.toNat).toInt.toNat))) R _
    refine u_ialdE (v := (g_X12_nothingStands S) 120 g.toInt.toNat) rfl rfl ((z_sn (fun h => absurd h.1 (by decide))).trans ((z_sn (fun h => absurd h.1 (by decide))).trans ((z_sn (fun h => absurd h.1 (by decide))).trans ((z_sn (fun h => absurd h.1 (by decide))).trans (z_sn (fun h => absurd h.1 (by decide))))))) (fun b141 b142 => ?_)
    show u_P L xs n d m_X12_gustStands 84 [(0, .ref 100), (1, .int g)] [.int ((g_X12_nothingStands S) 120 g.toInt.toNat), .ref 100] (z_s (z_s (z_s (z_s (z_s (g_X12_nothingStands S) 99 27 ((g_X12_nothingStands S) 117 g.toInt.toNat)) 99 28 (Int32.ofInt 8)) 99 29 ((g_X12_nothingStands S) 119 g.toInt.toNat)) 99 30 (f_X12_sizeOf ((g_X12_nothingStands S) 122 g.toInt.toNat))) 99 31 ((g_X12_nothingStands S) 124 (((g_X12_nothingStands S) 120 g.toInt.toNat).toInt.toNat))) R _
    refine u_put rfl v_tyM rfl ?_
    show u_P L xs n d m_X12_gustStands 87 [(0, .ref 100), (1, .int g)] [] (z_s (z_s (z_s (z_s (z_s (z_s (g_X12_nothingStands S) 99 27 ((g_X12_nothingStands S) 117 g.toInt.toNat)) 99 28 (Int32.ofInt 8)) 99 29 ((g_X12_nothingStands S) 119 g.toInt.toNat)) 99 30 (f_X12_sizeOf ((g_X12_nothingStands S) 122 g.toInt.toNat))) 99 31 ((g_X12_nothingStands S) 124 (((g_X12_nothingStands S) 120 g.toInt.toNat).toInt.toNat))) 99 32 ((g_X12_nothingStands S) 120 g.toInt.toNat)) R _
    exact u_ret rfl rfl ⟨rfl, rfl, by rw [g_X12_gustStands, if_neg h3]⟩
noncomputable def f_X12_falling (k : Int32) (w : Int32) (S : v_Sf) : Int32 := f_X12_tells (Int32.ofInt 105) (Int32.ofInt 10) (z_s (z_s (z_s (g_X12_nothingStands S) 99 32 w) 99 36 ((g_X12_nothingStands S) 130 k.toInt.toNat)) 99 37 (f_X12_manyIn w (z_s (z_s (g_X12_nothingStands S) 99 32 w) 99 36 ((g_X12_nothingStands S) 130 k.toInt.toNat))))
noncomputable def g_X12_falling (k : Int32) (w : Int32) (S : v_Sf) : v_Sf := g_X12_tells (Int32.ofInt 105) (Int32.ofInt 10) (z_s (z_s (z_s (g_X12_nothingStands S) 99 32 w) 99 36 ((g_X12_nothingStands S) 130 k.toInt.toNat)) 99 37 (f_X12_manyIn w (z_s (z_s (g_X12_nothingStands S) 99 32 w) 99 36 ((g_X12_nothingStands S) 130 k.toInt.toNat))))
set_option maxRecDepth 4000 in
theorem c_X12_falling (L : Nat) (xs : Nat → Int32) (n d : Nat) (k : Int32) (w : Int32) (S : v_Sf) (R : v_Rf) : u_P L xs n d m_X12_falling 0 (lv_args 0 [.ref 100, .int k, .int w]) [] S R (z_Q R (fun v S1 => f_X12_falling k w S = v ∧ g_X12_falling k w S = S1)) := by
  show u_P L xs n d m_X12_falling 0 [(0, .ref 100), (1, .int k), (2, .int w)] [] S R _
  refine u_st rfl (fun _ => rfl) ?_
  show u_P L xs n d m_X12_falling 1 [(0, .ref 100), (1, .int k), (2, .int w)] [.ref 100] S R _
  refine u_cv (rest := []) rfl (by decide) mt_X12_nothingStands v_tyM rfl rfl rfl (Nat.le_of_ble_eq_true rfl) (Nat.le_of_ble_eq_true rfl) (Nat.le_of_ble_eq_true rfl) (fun d' => c_X12_nothingStands L xs n d' S R) ?_
  rintro _ _ _ ⟨rfl, rfl, rfl⟩
  refine u_st rfl (fun _ => rfl) ?_
  refine u_st rfl (fun _ => rfl) ?_
  show u_P L xs n d m_X12_falling 6 [(0, .ref 100), (1, .int k), (2, .int w)] [.int w, .ref 100] (g_X12_nothingStands S) R _
  refine u_put rfl v_tyM rfl ?_
  refine u_st rfl (fun _ => rfl) ?_
  refine u_st rfl (fun _ => rfl) ?_
  show u_P L xs n d m_X12_falling 11 [(0, .ref 100), (1, .int k), (2, .int w)] [.ref 100, .ref 100] (z_s (g_X12_nothingStands S) 99 32 w) R _
  refine u_getr rfl v_tyM rfl ?_
  refine u_st rfl (fun _ => rfl) ?_
  show u_P L xs n d m_X12_falling 15 [(0, .ref 100), (1, .int k), (2, .int w)] [.int k, .ref 131, .ref 100] (z_s (g_X12_nothingStands S) 99 32 w) R _
  refine u_ialdE (v := (g_X12_nothingStands S) 130 k.toInt.toNat) rfl rfl (z_sn (fun h => absurd h.1 (by decide))) (fun b11 b12 => ?_)
  show u_P L xs n d m_X12_falling 16 [(0, .ref 100), (1, .int k), (2, .int w)] [.int ((g_X12_nothingStands S) 130 k.toInt.toNat), .ref 100] (z_s (g_X12_nothingStands S) 99 32 w) R _
  refine u_put rfl v_tyM rfl ?_
  refine u_st rfl (fun _ => rfl) ?_
  refine u_st rfl (fun _ => rfl) ?_
  refine u_st rfl (fun _ => rfl) ?_
  show u_P L xs n d m_X12_falling 22 [(0, .ref 100), (1, .int k), (2, .int w)] [.int w, .ref 100, .ref 100] (z_s (z_s (g_X12_nothingStands S) 99 32 w) 99 36 ((g_X12_nothingStands S) 130 k.toInt.toNat)) R _
  refine u_cv (rest := [.ref 100]) rfl (by decide) mt_X12_manyIn v_tyM rfl rfl rfl (Nat.le_of_ble_eq_true rfl) (Nat.le_of_ble_eq_true rfl) (Nat.le_of_ble_eq_true rfl) (fun d' => c_X12_manyIn L xs n d' w (z_s (z_s (g_X12_nothingStands S) 99 32 w) 99 36 ((g_X12_nothingStands S) 130 k.toInt.toNat)) R) ?_
  rintro _ _ _ ⟨_, rfl, rfl, rfl, rfl⟩
  show u_P L xs n d m_X12_falling 25 [(0, .ref 100), (1, .int k), (2, .int w)] [.int (f_X12_manyIn w (z_s (z_s (g_X12_nothingStands S) 99 32 w) 99 36 ((g_X12_nothingStands S) 130 k.toInt.toNat))), .ref 100] (z_s (z_s (g_X12_nothingStands S) 99 32 w) 99 36 ((g_X12_nothingStands S) 130 k.toInt.toNat)) R _
  refine u_put rfl v_tyM rfl ?_
  refine u_st rfl (fun _ => rfl) ?_
  refine u_st rfl (fun _ => rfl) ?_
  refine u_st rfl (fun _ => rfl) ?_
  show u_P L xs n d m_X12_falling 33 [(0, .ref 100), (1, .int k), (2, .int w)] [.int (Int32.ofInt 10), .int (Int32.ofInt 105), .ref 100] (z_s (z_s (z_s (g_X12_nothingStands S) 99 32 w) 99 36 ((g_X12_nothingStands S) 130 k.toInt.toNat)) 99 37 (f_X12_manyIn w (z_s (z_s (g_X12_nothingStands S) 99 32 w) 99 36 ((g_X12_nothingStands S) 130 k.toInt.toNat)))) R _
  refine u_cv (rest := []) rfl (by decide) mt_X12_tells v_tyM rfl rfl rfl (Nat.le_of_ble_eq_true rfl) (Nat.le_of_ble_eq_true rfl) (Nat.le_of_ble_eq_true rfl) (fun d' => c_X12_tells L xs n d' (Int32.ofInt 105) (Int32.ofInt 10) (z_s (z_s (z_s (g_X12_nothingStands S) 99 32 w) 99 36 ((g_X12_nothingStands S) 130 k.toInt.toNat)) 99 37 (f_X12_manyIn w (z_s (z_s (g_X12_nothingStands S) 99 32 w) 99 36 ((g_X12_nothingStands S) 130 k.toInt.toNat)))) R) ?_
  rintro _ _ _ ⟨_, rfl, rfl, rfl, rfl⟩
  show u_P L xs n d m_X12_falling 36 [(0, .ref 100), (1, .int k), (2, .int w)] [.int (f_X12_tells (Int32.ofInt 105) (Int32.ofInt 10) (z_s (z_s (z_s (g_X12_nothingStands S) 99 32 w) 99 36 ((g_X12_nothingStands S) 130 k.toInt.toNat)) 99 37 (f_X12_manyIn w (z_s (z_s (g_X12_nothingStands S) 99 32 w) 99 36 ((g_X12_nothingStands S) 130 k.toInt.toNat)))))] (g_X12_tells (Int32.ofInt 105) (Int32.ofInt 10) (z_s (z_s (z_s (g_X12_nothingStands S) 99 32 w) 99 36 ((g_X12_nothingStands S) 130 k.toInt.toNat)) 99 37 (f_X12_manyIn w (z_s (z_s (g_X12_nothingStands S) 99 32 w) 99 36 ((g_X12_nothingStands S) 130 k.toInt.toNat))))) R _
  exact u_ret rfl rfl ⟨_, rfl, rfl, rfl, rfl⟩
noncomputable abbrev m_X12_isKeptBy : g_M := (g_cn 12, yX12_isKeptBy, cX12_isKeptBy, 3, (some .boolean), g_look2 ttX12_isKeptBy)
set_option maxRecDepth 20000 in
theorem mt_X12_isKeptBy : g_mt 205 = some m_X12_isKeptBy := rfl
noncomputable def f_X12_isKeptBy (a : Int32) (w : Int32) (S : v_Sf) : Int32 := f_X12_isSo ((Int32.ofInt 16) + a) (z_s (z_s (z_s (z_s (z_s (g_X12_nothingStands S) 99 32 w) 99 37 (f_X12_manyIn w (z_s (g_X12_nothingStands S) 99 32 w))) 99 38 (f_X12_togetherIn w (z_s (z_s (g_X12_nothingStands S) 99 32 w) 99 37 (f_X12_manyIn w (z_s (g_X12_nothingStands S) 99 32 w))))) 99 39 ((g_X12_nothingStands S) 99 61)) 99 40 ((g_X12_nothingStands S) 99 62))
noncomputable def g_X12_isKeptBy (a : Int32) (w : Int32) (S : v_Sf) : v_Sf := g_X12_isSo ((Int32.ofInt 16) + a) (z_s (z_s (z_s (z_s (z_s (g_X12_nothingStands S) 99 32 w) 99 37 (f_X12_manyIn w (z_s (g_X12_nothingStands S) 99 32 w))) 99 38 (f_X12_togetherIn w (z_s (z_s (g_X12_nothingStands S) 99 32 w) 99 37 (f_X12_manyIn w (z_s (g_X12_nothingStands S) 99 32 w))))) 99 39 ((g_X12_nothingStands S) 99 61)) 99 40 ((g_X12_nothingStands S) 99 62))
set_option maxRecDepth 4000 in
theorem c_X12_isKeptBy (L : Nat) (xs : Nat → Int32) (n d : Nat) (a : Int32) (w : Int32) (S : v_Sf) (R : v_Rf) : u_P L xs n d m_X12_isKeptBy 0 (lv_args 0 [.ref 100, .int a, .int w]) [] S R (z_Q R (fun v S1 => f_X12_isKeptBy a w S = v ∧ g_X12_isKeptBy a w S = S1 ∧ 0 ≤ ((Int32.ofInt 16) + a).toInt ∧ ((Int32.ofInt 16) + a).toInt < 28)) := by
  show u_P L xs n d m_X12_isKeptBy 0 [(0, .ref 100), (1, .int a), (2, .int w)] [] S R _
  refine u_st rfl (fun _ => rfl) ?_
  show u_P L xs n d m_X12_isKeptBy 1 [(0, .ref 100), (1, .int a), (2, .int w)] [.ref 100] S R _
  refine u_cv (rest := []) rfl (by decide) mt_X12_nothingStands v_tyM rfl rfl rfl (Nat.le_of_ble_eq_true rfl) (Nat.le_of_ble_eq_true rfl) (Nat.le_of_ble_eq_true rfl) (fun d' => c_X12_nothingStands L xs n d' S R) ?_
  rintro _ _ _ ⟨rfl, rfl, rfl⟩
  refine u_st rfl (fun _ => rfl) ?_
  refine u_st rfl (fun _ => rfl) ?_
  show u_P L xs n d m_X12_isKeptBy 6 [(0, .ref 100), (1, .int a), (2, .int w)] [.int w, .ref 100] (g_X12_nothingStands S) R _
  refine u_put rfl v_tyM rfl ?_
  refine u_st rfl (fun _ => rfl) ?_
  refine u_st rfl (fun _ => rfl) ?_
  refine u_st rfl (fun _ => rfl) ?_
  show u_P L xs n d m_X12_isKeptBy 12 [(0, .ref 100), (1, .int a), (2, .int w)] [.int w, .ref 100, .ref 100] (z_s (g_X12_nothingStands S) 99 32 w) R _
  refine u_cv (rest := [.ref 100]) rfl (by decide) mt_X12_manyIn v_tyM rfl rfl rfl (Nat.le_of_ble_eq_true rfl) (Nat.le_of_ble_eq_true rfl) (Nat.le_of_ble_eq_true rfl) (fun d' => c_X12_manyIn L xs n d' w (z_s (g_X12_nothingStands S) 99 32 w) R) ?_
  rintro _ _ _ ⟨_, rfl, rfl, rfl, rfl⟩
  show u_P L xs n d m_X12_isKeptBy 15 [(0, .ref 100), (1, .int a), (2, .int w)] [.int (f_X12_manyIn w (z_s (g_X12_nothingStands S) 99 32 w)), .ref 100] (z_s (g_X12_nothingStands S) 99 32 w) R _
  refine u_put rfl v_tyM rfl ?_
  refine u_st rfl (fun _ => rfl) ?_
  refine u_st rfl (fun _ => rfl) ?_
  refine u_st rfl (fun _ => rfl) ?_
  show u_P L xs n d m_X12_isKeptBy 21 [(0, .ref 100), (1, .int a), (2, .int w)] [.int w, .ref 100, .ref 100] (z_s (z_s (g_X12_nothingStands S) 99 32 w) 99 37 (f_X12_manyIn w (z_s (g_X12_nothingStands S) 99 32 w))) R _
  refine u_cv (rest := [.ref 100]) rfl (by decide) mt_X12_togetherIn v_tyM rfl rfl rfl (Nat.le_of_ble_eq_true rfl) (Nat.le_of_ble_eq_true rfl) (Nat.le_of_ble_eq_true rfl) (fun d' => c_X12_togetherIn L xs n d' w (z_s (z_s (g_X12_nothingStands S) 99 32 w) 99 37 (f_X12_manyIn w (z_s (g_X12_nothingStands S) 99 32 w))) R) ?_
  rintro _ _ _ ⟨_, rfl, rfl, rfl, rfl⟩
  show u_P L xs n d m_X12_isKeptBy 24 [(0, .ref 100), (1, .int a), (2, .int w)] [.int (f_X12_togetherIn w (z_s (z_s (g_X12_nothingStands S) 99 32 w) 99 37 (f_X12_manyIn w (z_s (g_X12_nothingStands S) 99 32 w)))), .ref 100] (z_s (z_s (g_X12_nothingStands S) 99 32 w) 99 37 (f_X12_manyIn w (z_s (g_X12_nothingStands S) 99 32 w))) R _
  refine u_put rfl v_tyM rfl ?_
  refine u_st rfl (fun _ => rfl) ?_
  refine u_st rfl (fun _ => rfl) ?_
  show u_P L xs n d m_X12_isKeptBy 29 [(0, .ref 100), (1, .int a), (2, .int w)] [.ref 100, .ref 100] (z_s (z_s (z_s (g_X12_nothingStands S) 99 32 w) 99 37 (f_X12_manyIn w (z_s (g_X12_nothingStands S) 99 32 w))) 99 38 (f_X12_togetherIn w (z_s (z_s (g_X12_nothingStands S) 99 32 w) 99 37 (f_X12_manyIn w (z_s (g_X12_nothingStands S) 99 32 w))))) R _
  refine u_getE (v := (g_X12_nothingStands S) 99 61) rfl v_tyM rfl ((z_sn (fun h => absurd h.2 (by decide))).trans ((z_sn (fun h => absurd h.2 (by decide))).trans (z_sn (fun h => absurd h.2 (by decide))))) ?_
  show u_P L xs n d m_X12_isKeptBy 32 [(0, .ref 100), (1, .int a), (2, .int w)] [.int ((g_X12_nothingStands S) 99 61), .ref 100] (z_s (z_s (z_s (g_X12_nothingStands S) 99 32 w) 99 37 (f_X12_manyIn w (z_s (g_X12_nothingStands S) 99 32 w))) 99 38 (f_X12_togetherIn w (z_s (z_s (g_X12_nothingStands S) 99 32 w) 99 37 (f_X12_manyIn w (z_s (g_X12_nothingStands S) 99 32 w))))) R _
  refine u_put rfl v_tyM rfl ?_
  refine u_st rfl (fun _ => rfl) ?_
  refine u_st rfl (fun _ => rfl) ?_
  show u_P L xs n d m_X12_isKeptBy 37 [(0, .ref 100), (1, .int a), (2, .int w)] [.ref 100, .ref 100] (z_s (z_s (z_s (z_s (g_X12_nothingStands S) 99 32 w) 99 37 (f_X12_manyIn w (z_s (g_X12_nothingStands S) 99 32 w))) 99 38 (f_X12_togetherIn w (z_s (z_s (g_X12_nothingStands S) 99 32 w) 99 37 (f_X12_manyIn w (z_s (g_X12_nothingStands S) 99 32 w))))) 99 39 ((g_X12_nothingStands S) 99 61)) R _
  refine u_getE (v := (g_X12_nothingStands S) 99 62) rfl v_tyM rfl ((z_sn (fun h => absurd h.2 (by decide))).trans ((z_sn (fun h => absurd h.2 (by decide))).trans ((z_sn (fun h => absurd h.2 (by decide))).trans (z_sn (fun h => absurd h.2 (by decide)))))) ?_
  show u_P L xs n d m_X12_isKeptBy 40 [(0, .ref 100), (1, .int a), (2, .int w)] [.int ((g_X12_nothingStands S) 99 62), .ref 100] (z_s (z_s (z_s (z_s (g_X12_nothingStands S) 99 32 w) 99 37 (f_X12_manyIn w (z_s (g_X12_nothingStands S) 99 32 w))) 99 38 (f_X12_togetherIn w (z_s (z_s (g_X12_nothingStands S) 99 32 w) 99 37 (f_X12_manyIn w (z_s (g_X12_nothingStands S) 99 32 w))))) 99 39 ((g_X12_nothingStands S) 99 61)) R _
  refine u_put rfl v_tyM rfl ?_
  refine u_st rfl (fun _ => rfl) ?_
  refine u_st rfl (fun _ => rfl) ?_
  refine u_st rfl (fun _ => rfl) ?_
  refine u_st rfl (fun _ => rfl) ?_
  show u_P L xs n d m_X12_isKeptBy 48 [(0, .ref 100), (1, .int a), (2, .int w)] [.int ((Int32.ofInt 16) + a), .ref 100] (z_s (z_s (z_s (z_s (z_s (g_X12_nothingStands S) 99 32 w) 99 37 (f_X12_manyIn w (z_s (g_X12_nothingStands S) 99 32 w))) 99 38 (f_X12_togetherIn w (z_s (z_s (g_X12_nothingStands S) 99 32 w) 99 37 (f_X12_manyIn w (z_s (g_X12_nothingStands S) 99 32 w))))) 99 39 ((g_X12_nothingStands S) 99 61)) 99 40 ((g_X12_nothingStands S) 99 62)) R _
  refine u_cv (rest := []) rfl (by decide) mt_X12_isSo v_tyM rfl rfl rfl (Nat.le_of_ble_eq_true rfl) (Nat.le_of_ble_eq_true rfl) (Nat.le_of_ble_eq_true rfl) (fun d' => c_X12_isSo L xs n d' ((Int32.ofInt 16) + a) (z_s (z_s (z_s (z_s (z_s (g_X12_nothingStands S) 99 32 w) 99 37 (f_X12_manyIn w (z_s (g_X12_nothingStands S) 99 32 w))) 99 38 (f_X12_togetherIn w (z_s (z_s (g_X12_nothingStands S) 99 32 w) 99 37 (f_X12_manyIn w (z_s (g_X12_nothingStands S) 99 32 w))))) 99 39 ((g_X12_nothingStands S) 99 61)) 99 40 ((g_X12_nothingStands S) 99 62)) R) ?_
  rintro _ _ _ ⟨_, rfl, rfl, rfl, rfl, b11, b12⟩
  show u_P L xs n d m_X12_isKeptBy 51 [(0, .ref 100), (1, .int a), (2, .int w)] [.int (f_X12_isSo ((Int32.ofInt 16) + a) (z_s (z_s (z_s (z_s (z_s (g_X12_nothingStands S) 99 32 w) 99 37 (f_X12_manyIn w (z_s (g_X12_nothingStands S) 99 32 w))) 99 38 (f_X12_togetherIn w (z_s (z_s (g_X12_nothingStands S) 99 32 w) 99 37 (f_X12_manyIn w (z_s (g_X12_nothingStands S) 99 32 w))))) 99 39 ((g_X12_nothingStands S) 99 61)) 99 40 ((g_X12_nothingStands S) 99 62)))] (g_X12_isSo ((Int32.ofInt 16) + a) (z_s (z_s (z_s (z_s (z_s (g_X12_nothingStands S) 99 32 w) 99 37 (f_X12_manyIn w (z_s (g_X12_nothingStands S) 99 32 w))) 99 38 (f_X12_togetherIn w (z_s (z_s (g_X12_nothingStands S) 99 32 w) 99 37 (f_X12_manyIn w (z_s (g_X12_nothingStands S) 99 32 w))))) 99 39 ((g_X12_nothingStands S) 99 61)) 99 40 ((g_X12_nothingStands S) 99 62))) R _
  exact u_retb rfl rfl ⟨_, rfl, rfl, rfl, rfl, b11, b12⟩
noncomputable abbrev m_X12_isAngry : g_M := (g_cn 12, yX12_isAngry, cX12_isAngry, 3, (some .boolean), g_look2 ttX12_isAngry)
set_option maxRecDepth 20000 in
theorem mt_X12_isAngry : g_mt 206 = some m_X12_isAngry := rfl
noncomputable def f_X12_isAngry (g : Int32) (j : Int32) (S : v_Sf) : Int32 := (if ¬ ((g_X12_gustStands g S) 118 j.toInt.toNat) = (Int32.ofInt (-1)) then f_X12_says (Int32.ofInt 120) (z_s (z_s (g_X12_gustStands g S) 99 33 ((g_X12_gustStands g S) 117 j.toInt.toNat)) 99 34 ((g_X12_gustStands g S) 118 j.toInt.toNat)) else f_X12_says (Int32.ofInt 120) (z_s (z_s (g_X12_gustStands g S) 99 33 ((g_X12_gustStands g S) 117 j.toInt.toNat)) 99 34 (Int32.ofInt 8)))
noncomputable def g_X12_isAngry (g : Int32) (j : Int32) (S : v_Sf) : v_Sf := (if ¬ ((g_X12_gustStands g S) 118 j.toInt.toNat) = (Int32.ofInt (-1)) then g_X12_says (Int32.ofInt 120) (z_s (z_s (g_X12_gustStands g S) 99 33 ((g_X12_gustStands g S) 117 j.toInt.toNat)) 99 34 ((g_X12_gustStands g S) 118 j.toInt.toNat)) else g_X12_says (Int32.ofInt 120) (z_s (z_s (g_X12_gustStands g S) 99 33 ((g_X12_gustStands g S) 117 j.toInt.toNat)) 99 34 (Int32.ofInt 8)))
set_option maxRecDepth 4000 in
theorem c_X12_isAngry (L : Nat) (xs : Nat → Int32) (n d : Nat) (g : Int32) (j : Int32) (S : v_Sf) (R : v_Rf) : u_P L xs n d m_X12_isAngry 0 (lv_args 0 [.ref 100, .int g, .int j]) [] S R (z_Q R (fun v S1 => f_X12_isAngry g j S = v ∧ g_X12_isAngry g j S = S1)) := by
  show u_P L xs n d m_X12_isAngry 0 [(0, .ref 100), (1, .int g), (2, .int j)] [] S R _
  refine u_st rfl (fun _ => rfl) ?_
  refine u_st rfl (fun _ => rfl) ?_
  show u_P L xs n d m_X12_isAngry 2 [(0, .ref 100), (1, .int g), (2, .int j)] [.int g, .ref 100] S R _
  refine u_cv (rest := []) rfl (by decide) mt_X12_gustStands v_tyM rfl rfl rfl (Nat.le_of_ble_eq_true rfl) (Nat.le_of_ble_eq_true rfl) (Nat.le_of_ble_eq_true rfl) (fun d' => c_X12_gustStands L xs n d' g S R) ?_
  rintro _ _ _ ⟨rfl, rfl, rfl⟩
  refine u_st rfl (fun _ => rfl) ?_
  refine u_st rfl (fun _ => rfl) ?_
  show u_P L xs n d m_X12_isAngry 7 [(0, .ref 100), (1, .int g), (2, .int j)] [.ref 100, .ref 100] (g_X12_gustStands g S) R _
  refine u_getr rfl v_tyM rfl ?_
  refine u_st rfl (fun _ => rfl) ?_
  show u_P L xs n d m_X12_isAngry 11 [(0, .ref 100), (1, .int g), (2, .int j)] [.int j, .ref 118, .ref 100] (g_X12_gustStands g S) R _
  refine u_ialdE (v := (g_X12_gustStands g S) 117 j.toInt.toNat) rfl rfl rfl (fun b11 b12 => ?_)
  show u_P L xs n d m_X12_isAngry 12 [(0, .ref 100), (1, .int g), (2, .int j)] [.int ((g_X12_gustStands g S) 117 j.toInt.toNat), .ref 100] (g_X12_gustStands g S) R _
  refine u_put rfl v_tyM rfl ?_
  refine u_st rfl (fun _ => rfl) ?_
  refine u_st rfl (fun _ => rfl) ?_
  show u_P L xs n d m_X12_isAngry 17 [(0, .ref 100), (1, .int g), (2, .int j)] [.ref 100, .ref 100] (z_s (g_X12_gustStands g S) 99 33 ((g_X12_gustStands g S) 117 j.toInt.toNat)) R _
  refine u_getr rfl v_tyM rfl ?_
  refine u_st rfl (fun _ => rfl) ?_
  show u_P L xs n d m_X12_isAngry 21 [(0, .ref 100), (1, .int g), (2, .int j)] [.int j, .ref 119, .ref 100] (z_s (g_X12_gustStands g S) 99 33 ((g_X12_gustStands g S) 117 j.toInt.toNat)) R _
  refine u_ialdE (v := (g_X12_gustStands g S) 118 j.toInt.toNat) rfl rfl (z_sn (fun h => absurd h.1 (by decide))) (fun b21 b22 => ?_)
  refine u_st rfl (fun _ => rfl) ?_
  show u_P L xs n d m_X12_isAngry 23 [(0, .ref 100), (1, .int g), (2, .int j)] [.int (Int32.ofInt (-1)), .int ((g_X12_gustStands g S) 118 j.toInt.toNat), .ref 100] (z_s (g_X12_gustStands g S) 99 33 ((g_X12_gustStands g S) 117 j.toInt.toNat)) R _
  refine u_ic_ne rfl (fun h3 => ?_) (fun h3 => ?_)
  · show u_P L xs n d m_X12_isAngry 31 [(0, .ref 100), (1, .int g), (2, .int j)] [.ref 100] (z_s (g_X12_gustStands g S) 99 33 ((g_X12_gustStands g S) 117 j.toInt.toNat)) R _
    refine u_st rfl (fun _ => rfl) ?_
    show u_P L xs n d m_X12_isAngry 32 [(0, .ref 100), (1, .int g), (2, .int j)] [.ref 100, .ref 100] (z_s (g_X12_gustStands g S) 99 33 ((g_X12_gustStands g S) 117 j.toInt.toNat)) R _
    refine u_getr rfl v_tyM rfl ?_
    refine u_st rfl (fun _ => rfl) ?_
    show u_P L xs n d m_X12_isAngry 36 [(0, .ref 100), (1, .int g), (2, .int j)] [.int j, .ref 119, .ref 100] (z_s (g_X12_gustStands g S) 99 33 ((g_X12_gustStands g S) 117 j.toInt.toNat)) R _
    refine u_ialdE (v := (g_X12_gustStands g S) 118 j.toInt.toNat) rfl rfl (z_sn (fun h => absurd h.1 (by decide))) (fun b41 b42 => ?_)
    show u_P L xs n d m_X12_isAngry 37 [(0, .ref 100), (1, .int g), (2, .int j)] [.int ((g_X12_gustStands g S) 118 j.toInt.toNat), .ref 100] (z_s (g_X12_gustStands g S) 99 33 ((g_X12_gustStands g S) 117 j.toInt.toNat)) R _
    refine u_put rfl v_tyM rfl ?_
    refine u_st rfl (fun _ => rfl) ?_
    refine u_st rfl (fun _ => rfl) ?_
    show u_P L xs n d m_X12_isAngry 43 [(0, .ref 100), (1, .int g), (2, .int j)] [.int (Int32.ofInt 120), .ref 100] (z_s (z_s (g_X12_gustStands g S) 99 33 ((g_X12_gustStands g S) 117 j.toInt.toNat)) 99 34 ((g_X12_gustStands g S) 118 j.toInt.toNat)) R _
    refine u_cv (rest := []) rfl (by decide) mt_X12_says v_tyM rfl rfl rfl (Nat.le_of_ble_eq_true rfl) (Nat.le_of_ble_eq_true rfl) (Nat.le_of_ble_eq_true rfl) (fun d' => c_X12_says L xs n d' (Int32.ofInt 120) (z_s (z_s (g_X12_gustStands g S) 99 33 ((g_X12_gustStands g S) 117 j.toInt.toNat)) 99 34 ((g_X12_gustStands g S) 118 j.toInt.toNat)) R) ?_
    rintro _ _ _ ⟨_, rfl, rfl, rfl, rfl⟩
    show u_P L xs n d m_X12_isAngry 46 [(0, .ref 100), (1, .int g), (2, .int j)] [.int (f_X12_says (Int32.ofInt 120) (z_s (z_s (g_X12_gustStands g S) 99 33 ((g_X12_gustStands g S) 117 j.toInt.toNat)) 99 34 ((g_X12_gustStands g S) 118 j.toInt.toNat)))] (g_X12_says (Int32.ofInt 120) (z_s (z_s (g_X12_gustStands g S) 99 33 ((g_X12_gustStands g S) 117 j.toInt.toNat)) 99 34 ((g_X12_gustStands g S) 118 j.toInt.toNat))) R _
    exact u_retb rfl rfl ⟨_, rfl, rfl, by rw [f_X12_isAngry, if_pos h3], by rw [g_X12_isAngry, if_pos h3]⟩
  · show u_P L xs n d m_X12_isAngry 26 [(0, .ref 100), (1, .int g), (2, .int j)] [.ref 100] (z_s (g_X12_gustStands g S) 99 33 ((g_X12_gustStands g S) 117 j.toInt.toNat)) R _
    refine u_st rfl (fun _ => rfl) ?_
    refine u_st rfl (fun _ => rfl) ?_
    show u_P L xs n d m_X12_isAngry 37 [(0, .ref 100), (1, .int g), (2, .int j)] [.int (Int32.ofInt 8), .ref 100] (z_s (g_X12_gustStands g S) 99 33 ((g_X12_gustStands g S) 117 j.toInt.toNat)) R _
    refine u_put rfl v_tyM rfl ?_
    refine u_st rfl (fun _ => rfl) ?_
    refine u_st rfl (fun _ => rfl) ?_
    show u_P L xs n d m_X12_isAngry 43 [(0, .ref 100), (1, .int g), (2, .int j)] [.int (Int32.ofInt 120), .ref 100] (z_s (z_s (g_X12_gustStands g S) 99 33 ((g_X12_gustStands g S) 117 j.toInt.toNat)) 99 34 (Int32.ofInt 8)) R _
    refine u_cv (rest := []) rfl (by decide) mt_X12_says v_tyM rfl rfl rfl (Nat.le_of_ble_eq_true rfl) (Nat.le_of_ble_eq_true rfl) (Nat.le_of_ble_eq_true rfl) (fun d' => c_X12_says L xs n d' (Int32.ofInt 120) (z_s (z_s (g_X12_gustStands g S) 99 33 ((g_X12_gustStands g S) 117 j.toInt.toNat)) 99 34 (Int32.ofInt 8)) R) ?_
    rintro _ _ _ ⟨_, rfl, rfl, rfl, rfl⟩
    show u_P L xs n d m_X12_isAngry 46 [(0, .ref 100), (1, .int g), (2, .int j)] [.int (f_X12_says (Int32.ofInt 120) (z_s (z_s (g_X12_gustStands g S) 99 33 ((g_X12_gustStands g S) 117 j.toInt.toNat)) 99 34 (Int32.ofInt 8)))] (g_X12_says (Int32.ofInt 120) (z_s (z_s (g_X12_gustStands g S) 99 33 ((g_X12_gustStands g S) 117 j.toInt.toNat)) 99 34 (Int32.ofInt 8))) R _
    exact u_retb rfl rfl ⟨_, rfl, rfl, by rw [f_X12_isAngry, if_neg h3], by rw [g_X12_isAngry, if_neg h3]⟩
noncomputable def f_X12_doQuarrel (g : Int32) (j : Int32) (S : v_Sf) : Int32 := (if ¬ (f_X12_isAngry g j S) = 0 then Int32.ofInt 1 else (if (f_X12_isAngry j g (g_X12_isAngry g j S)) = 0 then Int32.ofInt 0 else Int32.ofInt 1))
noncomputable def g_X12_doQuarrel (g : Int32) (j : Int32) (S : v_Sf) : v_Sf := (if ¬ (f_X12_isAngry g j S) = 0 then g_X12_isAngry g j S else g_X12_isAngry j g (g_X12_isAngry g j S))
set_option maxRecDepth 4000 in
theorem c_X12_doQuarrel (L : Nat) (xs : Nat → Int32) (n d : Nat) (g : Int32) (j : Int32) (S : v_Sf) (R : v_Rf) : u_P L xs n d m_X12_doQuarrel 0 (lv_args 0 [.ref 100, .int g, .int j]) [] S R (z_Q R (fun v S1 => f_X12_doQuarrel g j S = v ∧ g_X12_doQuarrel g j S = S1)) := by
  show u_P L xs n d m_X12_doQuarrel 0 [(0, .ref 100), (1, .int g), (2, .int j)] [] S R _
  refine u_st rfl (fun _ => rfl) ?_
  refine u_st rfl (fun _ => rfl) ?_
  refine u_st rfl (fun _ => rfl) ?_
  show u_P L xs n d m_X12_doQuarrel 3 [(0, .ref 100), (1, .int g), (2, .int j)] [.int j, .int g, .ref 100] S R _
  refine u_cv (rest := []) rfl (by decide) mt_X12_isAngry v_tyM rfl rfl rfl (Nat.le_of_ble_eq_true rfl) (Nat.le_of_ble_eq_true rfl) (Nat.le_of_ble_eq_true rfl) (fun d' => c_X12_isAngry L xs n d' g j S R) ?_
  rintro _ _ _ ⟨_, rfl, rfl, rfl, rfl⟩
  show u_P L xs n d m_X12_doQuarrel 6 [(0, .ref 100), (1, .int g), (2, .int j)] [.int (f_X12_isAngry g j S)] (g_X12_isAngry g j S) R _
  refine u_if_ne rfl (fun h1 => ?_) (fun h1 => ?_)
  · show u_P L xs n d m_X12_doQuarrel 18 [(0, .ref 100), (1, .int g), (2, .int j)] [] (g_X12_isAngry g j S) R _
    refine u_st rfl (fun _ => rfl) ?_
    refine u_st rfl (fun _ => rfl) ?_
    show u_P L xs n d m_X12_doQuarrel 23 [(0, .ref 100), (1, .int g), (2, .int j)] [.int (Int32.ofInt 1)] (g_X12_isAngry g j S) R _
    exact u_retb rfl rfl ⟨_, rfl, rfl, by rw [f_X12_doQuarrel, if_pos h1], by rw [g_X12_doQuarrel, if_pos h1]⟩
  · show u_P L xs n d m_X12_doQuarrel 9 [(0, .ref 100), (1, .int g), (2, .int j)] [] (g_X12_isAngry g j S) R _
    refine u_st rfl (fun _ => rfl) ?_
    refine u_st rfl (fun _ => rfl) ?_
    refine u_st rfl (fun _ => rfl) ?_
    show u_P L xs n d m_X12_doQuarrel 12 [(0, .ref 100), (1, .int g), (2, .int j)] [.int g, .int j, .ref 100] (g_X12_isAngry g j S) R _
    refine u_cv (rest := []) rfl (by decide) mt_X12_isAngry v_tyM rfl rfl rfl (Nat.le_of_ble_eq_true rfl) (Nat.le_of_ble_eq_true rfl) (Nat.le_of_ble_eq_true rfl) (fun d' => c_X12_isAngry L xs n d' j g (g_X12_isAngry g j S) R) ?_
    rintro _ _ _ ⟨_, rfl, rfl, rfl, rfl⟩
    show u_P L xs n d m_X12_doQuarrel 15 [(0, .ref 100), (1, .int g), (2, .int j)] [.int (f_X12_isAngry j g (g_X12_isAngry g j S))] (g_X12_isAngry j g (g_X12_isAngry g j S)) R _
    refine u_if_eq rfl (fun h2 => ?_) (fun h2 => ?_)
    · show u_P L xs n d m_X12_doQuarrel 22 [(0, .ref 100), (1, .int g), (2, .int j)] [] (g_X12_isAngry j g (g_X12_isAngry g j S)) R _
      refine u_st rfl (fun _ => rfl) ?_
      show u_P L xs n d m_X12_doQuarrel 23 [(0, .ref 100), (1, .int g), (2, .int j)] [.int (Int32.ofInt 0)] (g_X12_isAngry j g (g_X12_isAngry g j S)) R _
      exact u_retb rfl rfl ⟨_, rfl, rfl, by rw [f_X12_doQuarrel, if_neg h1, if_pos h2], by rw [g_X12_doQuarrel, if_neg h1]⟩
    · show u_P L xs n d m_X12_doQuarrel 18 [(0, .ref 100), (1, .int g), (2, .int j)] [] (g_X12_isAngry j g (g_X12_isAngry g j S)) R _
      refine u_st rfl (fun _ => rfl) ?_
      refine u_st rfl (fun _ => rfl) ?_
      show u_P L xs n d m_X12_doQuarrel 23 [(0, .ref 100), (1, .int g), (2, .int j)] [.int (Int32.ofInt 1)] (g_X12_isAngry j g (g_X12_isAngry g j S)) R _
      exact u_retb rfl rfl ⟨_, rfl, rfl, by rw [f_X12_doQuarrel, if_neg h1, if_neg h2], by rw [g_X12_doQuarrel, if_neg h1]⟩
end PrtS42j
section PrtS42k
noncomputable abbrev m_X12_weakens : g_M := (g_cn 12, yX12_weakens, cX12_weakens, 3, none, g_look2 ttX12_weakens)
set_option maxRecDepth 20000 in
theorem mt_X12_weakens : g_mt 228 = some m_X12_weakens := rfl
noncomputable def D_X12_weakens_22  (H22 : Int32 → v_Sf → Prop) (K : v_Sf → Prop) (x2 : Int32) (S : v_Sf) : Prop := (((Int32.ofInt 12) ≤ x2 → K S) ∧ (¬ ((Int32.ofInt 12) ≤ x2) → (0 ≤ x2.toInt → x2.toInt < 12 → (((¬ (S 116 x2.toInt.toNat) = 0) → (0 ≤ x2.toInt → x2.toInt < 12 → (0 ≤ x2.toInt → x2.toInt < 12 → H22 (x2 + (Int32.ofInt 1)) (z_s (g_X12_tells (Int32.ofInt 103) (Int32.ofInt 20) (g_X12_gustStands x2 S)) 117 x2.toInt.toNat (f_X12_held (((g_X12_gustStands x2 S) 117 x2.toInt.toNat) - (f_X12_tells (Int32.ofInt 103) (Int32.ofInt 20) (g_X12_gustStands x2 S))) (Int32.ofInt 99)))))) ∧ (¬ (¬ (S 116 x2.toInt.toNat) = 0) → H22 (x2 + (Int32.ofInt 1)) S)))))
noncomputable def D_X12_weakens  (H22 : Int32 → v_Sf → Prop) (K : v_Sf → Prop) (S : v_Sf) : Prop := ((((S 99 60) - (S 99 60) / (Int32.ofInt 12) * (Int32.ofInt 12)) = (Int32.ofInt 11) → H22 (Int32.ofInt 0) S) ∧ (¬ (((S 99 60) - (S 99 60) / (Int32.ofInt 12) * (Int32.ofInt 12)) = (Int32.ofInt 11)) → ((((S 99 60) - (S 99 60) / (Int32.ofInt 12) * (Int32.ofInt 12)) ≤ (Int32.ofInt 1) → H22 (Int32.ofInt 0) S) ∧ (¬ (((S 99 60) - (S 99 60) / (Int32.ofInt 12) * (Int32.ofInt 12)) ≤ (Int32.ofInt 1)) → K S))))
set_option maxRecDepth 4000 in
theorem hd_X12_weakens (L : Nat) (xs : Nat → Int32) {R : v_Rf}  (H22 : Int32 → v_Sf → Prop) (K : v_Sf → Prop) (k22 : ∀ (x2 : Int32) (S : v_Sf), H22 x2 S → D_X12_weakens_22 H22 K x2 S) : ∀ n, (∀ (d : Nat) (j1 : Int32) (x2 : Int32) (S : v_Sf), H22 x2 S → u_P L xs n d m_X12_weakens 22 [(0, .ref 100), (1, .int j1), (2, .int x2)] [] S R (z_V R K)) := by
  intro n
  induction n using Nat.strongRecOn with
  | ind n ih =>
    intro d j1 x2 S hD
    have hD := k22 x2 S hD
    unfold D_X12_weakens_22 at hD
    show u_P L xs n d m_X12_weakens 22 [(0, .ref 100), (1, .int j1), (2, .int x2)] [] S R _
    refine u_st1 rfl (fun _ => rfl) (fun m hm => ?_)
    refine u_st rfl (fun _ => rfl) ?_
    show u_P L xs m d m_X12_weakens 25 [(0, .ref 100), (1, .int j1), (2, .int x2)] [.int (Int32.ofInt 12), .int x2] S R _
    refine u_ic_ge rfl (fun h1 => ?_) (fun h1 => ?_)
    · have hD := hD.1 h1
      show u_P L xs m d m_X12_weakens 77 [(0, .ref 100), (1, .int j1), (2, .int x2)] [] S R _
      exact u_ret rfl rfl ⟨rfl, rfl, hD⟩
    · have hD := hD.2 h1
      show u_P L xs m d m_X12_weakens 28 [(0, .ref 100), (1, .int j1), (2, .int x2)] [] S R _
      refine u_st rfl (fun _ => rfl) ?_
      show u_P L xs m d m_X12_weakens 29 [(0, .ref 100), (1, .int j1), (2, .int x2)] [.ref 100] S R _
      refine u_getr rfl v_tyM rfl ?_
      refine u_st rfl (fun _ => rfl) ?_
      show u_P L xs m d m_X12_weakens 33 [(0, .ref 100), (1, .int j1), (2, .int x2)] [.int x2, .ref 117] S R _
      refine u_baldE (v := S 116 x2.toInt.toNat) rfl rfl (by decide) rfl (fun b21 b22 => ?_)
      have hD := hD b21 b22
      show u_P L xs m d m_X12_weakens 34 [(0, .ref 100), (1, .int j1), (2, .int x2)] [.int (S 116 x2.toInt.toNat)] S R _
      refine u_if_ne rfl (fun h3 => ?_) (fun h3 => ?_)
      · have hD := hD.1 h3
        show u_P L xs m d m_X12_weakens 40 [(0, .ref 100), (1, .int j1), (2, .int x2)] [] S R _
        refine u_st rfl (fun _ => rfl) ?_
        refine u_st rfl (fun _ => rfl) ?_
        show u_P L xs m d m_X12_weakens 42 [(0, .ref 100), (1, .int j1), (2, .int x2)] [.int x2, .ref 100] S R _
        refine u_cv (rest := []) rfl (by decide) mt_X12_gustStands v_tyM rfl rfl rfl (Nat.le_of_ble_eq_true rfl) (Nat.le_of_ble_eq_true rfl) (Nat.le_of_ble_eq_true rfl) (fun d' => c_X12_gustStands L xs m d' x2 S R) ?_
        rintro _ _ _ ⟨rfl, rfl, rfl⟩
        refine u_st rfl (fun _ => rfl) ?_
        show u_P L xs m d m_X12_weakens 46 [(0, .ref 100), (1, .int j1), (2, .int x2)] [.ref 100] (g_X12_gustStands x2 S) R _
        refine u_getr rfl v_tyM rfl ?_
        refine u_st rfl (fun _ => rfl) ?_
        refine u_st rfl (fun _ => rfl) ?_
        show u_P L xs m d m_X12_weakens 51 [(0, .ref 100), (1, .int j1), (2, .int x2)] [.ref 100, .int x2, .ref 118] (g_X12_gustStands x2 S) R _
        refine u_getr rfl v_tyM rfl ?_
        refine u_st rfl (fun _ => rfl) ?_
        show u_P L xs m d m_X12_weakens 55 [(0, .ref 100), (1, .int j1), (2, .int x2)] [.int x2, .ref 118, .int x2, .ref 118] (g_X12_gustStands x2 S) R _
        refine u_ialdE (v := (g_X12_gustStands x2 S) 117 x2.toInt.toNat) rfl rfl rfl (fun b41 b42 => ?_)
        have hD := hD b41 b42
        show u_P L xs m d m_X12_weakens 56 [(0, .ref 100), (1, .int j1), (2, .int x2)] [.int ((g_X12_gustStands x2 S) 117 x2.toInt.toNat), .int x2, .ref 118] (g_X12_gustStands x2 S) R _
        refine u_st rfl (fun _ => rfl) ?_
        refine u_st rfl (fun _ => rfl) ?_
        refine u_st rfl (fun _ => rfl) ?_
        show u_P L xs m d m_X12_weakens 61 [(0, .ref 100), (1, .int j1), (2, .int x2)] [.int (Int32.ofInt 20), .int (Int32.ofInt 103), .ref 100, .int ((g_X12_gustStands x2 S) 117 x2.toInt.toNat), .int x2, .ref 118] (g_X12_gustStands x2 S) R _
        refine u_cv (rest := [.int ((g_X12_gustStands x2 S) 117 x2.toInt.toNat), .int x2, .ref 118]) rfl (by decide) mt_X12_tells v_tyM rfl rfl rfl (Nat.le_of_ble_eq_true rfl) (Nat.le_of_ble_eq_true rfl) (Nat.le_of_ble_eq_true rfl) (fun d' => c_X12_tells L xs m d' (Int32.ofInt 103) (Int32.ofInt 20) (g_X12_gustStands x2 S) R) ?_
        rintro _ _ _ ⟨_, rfl, rfl, rfl, rfl⟩
        refine u_st rfl (fun _ => rfl) ?_
        refine u_st rfl (fun _ => rfl) ?_
        show u_P L xs m d m_X12_weakens 67 [(0, .ref 100), (1, .int j1), (2, .int x2)] [.int (Int32.ofInt 99), .int (((g_X12_gustStands x2 S) 117 x2.toInt.toNat) - (f_X12_tells (Int32.ofInt 103) (Int32.ofInt 20) (g_X12_gustStands x2 S))), .int x2, .ref 118] (g_X12_tells (Int32.ofInt 103) (Int32.ofInt 20) (g_X12_gustStands x2 S)) R _
        refine u_cs (ac := [.int (((g_X12_gustStands x2 S) 117 x2.toInt.toNat) - (f_X12_tells (Int32.ofInt 103) (Int32.ofInt 20) (g_X12_gustStands x2 S))), .int (Int32.ofInt 99)]) (rest := [.int x2, .ref 118]) rfl (by decide) mt_X12_held (fun _ => rfl) (Nat.le_of_ble_eq_true rfl) (Nat.le_of_ble_eq_true rfl) (fun d' => c_X12_held L xs m d' (((g_X12_gustStands x2 S) 117 x2.toInt.toNat) - (f_X12_tells (Int32.ofInt 103) (Int32.ofInt 20) (g_X12_gustStands x2 S))) (Int32.ofInt 99) (g_X12_tells (Int32.ofInt 103) (Int32.ofInt 20) (g_X12_gustStands x2 S)) R) ?_
        rintro _ _ _ ⟨_, rfl, rfl, rfl, rfl⟩
        show u_P L xs m d m_X12_weakens 70 [(0, .ref 100), (1, .int j1), (2, .int x2)] [.int (f_X12_held (((g_X12_gustStands x2 S) 117 x2.toInt.toNat) - (f_X12_tells (Int32.ofInt 103) (Int32.ofInt 20) (g_X12_gustStands x2 S))) (Int32.ofInt 99)), .int x2, .ref 118] (g_X12_tells (Int32.ofInt 103) (Int32.ofInt 20) (g_X12_gustStands x2 S)) R _
        refine u_iast rfl rfl (fun b51 b52 => ?_)
        have hD := hD b51 b52
        show u_P L xs m d m_X12_weakens 71 [(0, .ref 100), (1, .int j1), (2, .int x2)] [] (z_s (g_X12_tells (Int32.ofInt 103) (Int32.ofInt 20) (g_X12_gustStands x2 S)) 117 x2.toInt.toNat (f_X12_held (((g_X12_gustStands x2 S) 117 x2.toInt.toNat) - (f_X12_tells (Int32.ofInt 103) (Int32.ofInt 20) (g_X12_gustStands x2 S))) (Int32.ofInt 99))) R _
        refine u_st rfl (fun _ => rfl) ?_
        refine u_st rfl (fun _ => rfl) ?_
        refine u_lc (b := [(0, .ref 100), (1, .int j1), (2, .int (x2 + (Int32.ofInt 1)))]) (show ([2, 0, 1] : List Nat).Nodup by decide) (show ([0, 1, 2] : List Nat).Nodup by decide) (fun i => match i with | 0 => rfl | 1 => rfl | 2 => rfl | _ + 3 => rfl) ?_
        exact (ih m hm) d j1 (x2 + (Int32.ofInt 1)) (z_s (g_X12_tells (Int32.ofInt 103) (Int32.ofInt 20) (g_X12_gustStands x2 S)) 117 x2.toInt.toNat (f_X12_held (((g_X12_gustStands x2 S) 117 x2.toInt.toNat) - (f_X12_tells (Int32.ofInt 103) (Int32.ofInt 20) (g_X12_gustStands x2 S))) (Int32.ofInt 99))) hD
      · have hD := hD.2 h3
        show u_P L xs m d m_X12_weakens 37 [(0, .ref 100), (1, .int j1), (2, .int x2)] [] S R _
        refine u_st rfl (fun _ => rfl) ?_
        refine u_st rfl (fun _ => rfl) ?_
        refine u_st rfl (fun _ => rfl) ?_
        refine u_lc (b := [(0, .ref 100), (1, .int j1), (2, .int (x2 + (Int32.ofInt 1)))]) (show ([2, 0, 1] : List Nat).Nodup by decide) (show ([0, 1, 2] : List Nat).Nodup by decide) (fun i => match i with | 0 => rfl | 1 => rfl | 2 => rfl | _ + 3 => rfl) ?_
        exact (ih m hm) d j1 (x2 + (Int32.ofInt 1)) S hD
set_option maxRecDepth 4000 in
theorem w_X12_weakens (L : Nat) (xs : Nat → Int32) {R : v_Rf}  (H22 : Int32 → v_Sf → Prop) (K : v_Sf → Prop) (k22 : ∀ (x2 : Int32) (S : v_Sf), H22 x2 S → D_X12_weakens_22 H22 K x2 S) (n d : Nat) (S : v_Sf) (hD : D_X12_weakens H22 K S) : u_P L xs n d m_X12_weakens 0 (lv_args 0 [.ref 100]) [] S R (z_V R K) := by
  unfold D_X12_weakens at hD
  show u_P L xs n d m_X12_weakens 0 [(0, .ref 100)] [] S R _
  refine u_st rfl (fun _ => rfl) ?_
  show u_P L xs n d m_X12_weakens 1 [(0, .ref 100)] [.ref 100] S R _
  refine u_getE (v := S 99 60) rfl v_tyM rfl rfl ?_
  refine u_st rfl (fun _ => rfl) ?_
  show u_P L xs n d m_X12_weakens 6 [(0, .ref 100)] [.int (Int32.ofInt 12), .int (S 99 60)] S R _
  refine u_irem rfl (fun b1 => ?_)
  refine u_st rfl (fun _ => rfl) ?_
  refine u_st rfl (fun _ => rfl) ?_
  refine u_st rfl (fun _ => rfl) ?_
  show u_P L xs n d m_X12_weakens 11 [(1, .int ((S 99 60) - (S 99 60) / (Int32.ofInt 12) * (Int32.ofInt 12))), (0, .ref 100)] [.int (Int32.ofInt 11), .int ((S 99 60) - (S 99 60) / (Int32.ofInt 12) * (Int32.ofInt 12))] S R _
  refine u_ic_eq rfl (fun h2 => ?_) (fun h2 => ?_)
  · have hD := hD.1 h2
    show u_P L xs n d m_X12_weakens 20 [(1, .int ((S 99 60) - (S 99 60) / (Int32.ofInt 12) * (Int32.ofInt 12))), (0, .ref 100)] [] S R _
    refine u_st rfl (fun _ => rfl) ?_
    refine u_st rfl (fun _ => rfl) ?_
    refine u_lc (b := [(0, .ref 100), (1, .int ((S 99 60) - (S 99 60) / (Int32.ofInt 12) * (Int32.ofInt 12))), (2, .int (Int32.ofInt 0))]) (show ([2, 1, 0] : List Nat).Nodup by decide) (show ([0, 1, 2] : List Nat).Nodup by decide) (fun i => match i with | 0 => rfl | 1 => rfl | 2 => rfl | _ + 3 => rfl) ?_
    exact (hd_X12_weakens L xs H22 K k22 n) d ((S 99 60) - (S 99 60) / (Int32.ofInt 12) * (Int32.ofInt 12)) (Int32.ofInt 0) S hD
  · have hD := hD.2 h2
    show u_P L xs n d m_X12_weakens 14 [(1, .int ((S 99 60) - (S 99 60) / (Int32.ofInt 12) * (Int32.ofInt 12))), (0, .ref 100)] [] S R _
    refine u_st rfl (fun _ => rfl) ?_
    refine u_st rfl (fun _ => rfl) ?_
    show u_P L xs n d m_X12_weakens 16 [(1, .int ((S 99 60) - (S 99 60) / (Int32.ofInt 12) * (Int32.ofInt 12))), (0, .ref 100)] [.int (Int32.ofInt 1), .int ((S 99 60) - (S 99 60) / (Int32.ofInt 12) * (Int32.ofInt 12))] S R _
    refine u_ic_le rfl (fun h3 => ?_) (fun h3 => ?_)
    · have hD := hD.1 h3
      show u_P L xs n d m_X12_weakens 20 [(1, .int ((S 99 60) - (S 99 60) / (Int32.ofInt 12) * (Int32.ofInt 12))), (0, .ref 100)] [] S R _
      refine u_st rfl (fun _ => rfl) ?_
      refine u_st rfl (fun _ => rfl) ?_
      refine u_lc (b := [(0, .ref 100), (1, .int ((S 99 60) - (S 99 60) / (Int32.ofInt 12) * (Int32.ofInt 12))), (2, .int (Int32.ofInt 0))]) (show ([2, 1, 0] : List Nat).Nodup by decide) (show ([0, 1, 2] : List Nat).Nodup by decide) (fun i => match i with | 0 => rfl | 1 => rfl | 2 => rfl | _ + 3 => rfl) ?_
      exact (hd_X12_weakens L xs H22 K k22 n) d ((S 99 60) - (S 99 60) / (Int32.ofInt 12) * (Int32.ofInt 12)) (Int32.ofInt 0) S hD
    · have hD := hD.2 h3
      show u_P L xs n d m_X12_weakens 19 [(1, .int ((S 99 60) - (S 99 60) / (Int32.ofInt 12) * (Int32.ofInt 12))), (0, .ref 100)] [] S R _
      exact u_ret rfl rfl ⟨rfl, rfl, hD⟩
noncomputable def r_X12_weakens_22  : Nat → Nat → v_Sf → v_Sf
  | 0, k22, S => S
  | r + 1, k22, S => (if ¬ (S 116 (z_i k22).toInt.toNat) = 0 then r_X12_weakens_22 r (k22 + 1) (z_s (g_X12_tells (Int32.ofInt 103) (Int32.ofInt 20) (g_X12_gustStands (z_i k22) S)) 117 (z_i k22).toInt.toNat (f_X12_held (((g_X12_gustStands (z_i k22) S) 117 (z_i k22).toInt.toNat) - (f_X12_tells (Int32.ofInt 103) (Int32.ofInt 20) (g_X12_gustStands (z_i k22) S))) (Int32.ofInt 99))) else r_X12_weakens_22 r (k22 + 1) S)
noncomputable def F_X12_weakens  (S : v_Sf) : v_Sf := (if ((S 99 60) - (S 99 60) / (Int32.ofInt 12) * (Int32.ofInt 12)) = (Int32.ofInt 11) then r_X12_weakens_22 (12 - 0) 0 S else (if ((S 99 60) - (S 99 60) / (Int32.ofInt 12) * (Int32.ofInt 12)) ≤ (Int32.ofInt 1) then r_X12_weakens_22 (12 - 0) 0 S else S))
noncomputable def g_X12_weakens  (S : v_Sf) : v_Sf := F_X12_weakens  S
theorem c_X12_weakens (L : Nat) (xs : Nat → Int32) (n d : Nat)  (S : v_Sf) (R : v_Rf) : u_P L xs n d m_X12_weakens 0 (lv_args 0 [.ref 100]) [] S R (z_V R (fun S1 => g_X12_weakens  S = S1)) := by
  refine w_X12_weakens L xs  (fun y2 T => ∃ (k22 : Nat), k22 ≤ 12 ∧ z_i k22 = y2 ∧ r_X12_weakens_22 (12 - k22) k22 T = F_X12_weakens  S) (fun S1 => g_X12_weakens  S = S1) ?_ n d S ?_
  · rintro _ S1 ⟨k22, hkk, rfl, e⟩
    unfold D_X12_weakens_22
    rcases Nat.lt_or_ge k22 (12) with hk | hk
    · rw [show 12 - k22 = (12 - (k22 + 1)) + 1 by omega, r_X12_weakens_22] at e
      refine ⟨fun q1 => ?_, fun q1 => ?_⟩
      · exact absurd hk (Nat.not_lt.mpr (z_leB2 (B := 12) q1 (by decide) (by omega)))
      · intro _ _
        refine ⟨fun q2 => ?_, fun q2 => ?_⟩
        · intro _ _
          intro _ _
          rw [if_pos q2] at e
          exact ⟨(k22 + 1), by omega, (z_i1 k22).symm, e⟩
        · rw [if_neg q2] at e
          exact ⟨(k22 + 1), by omega, (z_i1 k22).symm, e⟩
    · rw [show 12 - k22 = 0 by omega, r_X12_weakens_22] at e
      refine ⟨fun q3 => ?_, fun q3 => ?_⟩
      · exact e.symm
      · exact absurd hk (Nat.not_le.mpr (z_ltB2 (B := 12) q3 (by decide) (by omega)))
  · unfold D_X12_weakens
    refine ⟨fun q4 => ?_, fun q4 => ?_⟩
    · have e : r_X12_weakens_22 (12 - 0) 0 S = F_X12_weakens  S := by rw [F_X12_weakens, if_pos q4]
      exact ⟨0, by omega, rfl, e⟩
    · refine ⟨fun q5 => ?_, fun q5 => ?_⟩
      · have e : r_X12_weakens_22 (12 - 0) 0 S = F_X12_weakens  S := by rw [F_X12_weakens, if_neg q4, if_pos q5]
        exact ⟨0, by omega, rfl, e⟩
      · have e : S = F_X12_weakens  S := by rw [F_X12_weakens, if_neg q4, if_neg q5]
        exact e.symm
noncomputable abbrev m_X12_feeds : g_M := (g_cn 12, yX12_feeds, cX12_feeds, 3, none, g_look2 ttX12_feeds)
set_option maxRecDepth 20000 in
theorem mt_X12_feeds : g_mt 230 = some m_X12_feeds := rfl
noncomputable def D_X12_feeds_2  (H2 : Int32 → Int32 → v_Sf → Prop) (K : v_Sf → Prop) (x1 : Int32) (x2 : Int32) (S : v_Sf) : Prop := (((Int32.ofInt 12) ≤ x2 → K S) ∧ (¬ ((Int32.ofInt 12) ≤ x2) → (0 ≤ x1.toInt → x1.toInt < 6 → (((S 124 x1.toInt.toNat) ≤ 0 → K S) ∧ (¬ ((S 124 x1.toInt.toNat) ≤ 0) → (((¬ (f_X12_isIn x2 x1 S) = 0) → (0 ≤ x2.toInt → x2.toInt < 12 → (0 ≤ x2.toInt → x2.toInt < 12 → H2 x1 (x2 + (Int32.ofInt 1)) (z_s (g_X12_tells (Int32.ofInt 102) (Int32.ofInt 20) (g_X12_gustStands x2 S)) 117 x2.toInt.toNat (f_X12_held (((g_X12_gustStands x2 S) 117 x2.toInt.toNat) + (f_X12_tells (Int32.ofInt 102) (Int32.ofInt 20) (g_X12_gustStands x2 S))) (Int32.ofInt 99)))))) ∧ (¬ (¬ (f_X12_isIn x2 x1 S) = 0) → H2 x1 (x2 + (Int32.ofInt 1)) S)))))))
noncomputable def D_X12_feeds (w : Int32) (H2 : Int32 → Int32 → v_Sf → Prop) (K : v_Sf → Prop) (S : v_Sf) : Prop := H2 w (Int32.ofInt 0) S
set_option maxRecDepth 4000 in
theorem hd_X12_feeds (L : Nat) (xs : Nat → Int32) {R : v_Rf} (w : Int32) (H2 : Int32 → Int32 → v_Sf → Prop) (K : v_Sf → Prop) (k2 : ∀ (x1 : Int32) (x2 : Int32) (S : v_Sf), H2 x1 x2 S → D_X12_feeds_2 H2 K x1 x2 S) : ∀ n, (∀ (d : Nat) (x1 : Int32) (x2 : Int32) (S : v_Sf), H2 x1 x2 S → u_P L xs n d m_X12_feeds 2 [(0, .ref 100), (1, .int x1), (2, .int x2)] [] S R (z_V R K)) := by
  intro n
  induction n using Nat.strongRecOn with
  | ind n ih =>
    intro d x1 x2 S hD
    have hD := k2 x1 x2 S hD
    unfold D_X12_feeds_2 at hD
    show u_P L xs n d m_X12_feeds 2 [(0, .ref 100), (1, .int x1), (2, .int x2)] [] S R _
    refine u_st1 rfl (fun _ => rfl) (fun m hm => ?_)
    refine u_st rfl (fun _ => rfl) ?_
    show u_P L xs m d m_X12_feeds 5 [(0, .ref 100), (1, .int x1), (2, .int x2)] [.int (Int32.ofInt 12), .int x2] S R _
    refine u_ic_ge rfl (fun h1 => ?_) (fun h1 => ?_)
    · have hD := hD.1 h1
      show u_P L xs m d m_X12_feeds 66 [(0, .ref 100), (1, .int x1), (2, .int x2)] [] S R _
      exact u_ret rfl rfl ⟨rfl, rfl, hD⟩
    · have hD := hD.2 h1
      show u_P L xs m d m_X12_feeds 8 [(0, .ref 100), (1, .int x1), (2, .int x2)] [] S R _
      refine u_st rfl (fun _ => rfl) ?_
      show u_P L xs m d m_X12_feeds 9 [(0, .ref 100), (1, .int x1), (2, .int x2)] [.ref 100] S R _
      refine u_getr rfl v_tyM rfl ?_
      refine u_st rfl (fun _ => rfl) ?_
      show u_P L xs m d m_X12_feeds 13 [(0, .ref 100), (1, .int x1), (2, .int x2)] [.int x1, .ref 125] S R _
      refine u_ialdE (v := S 124 x1.toInt.toNat) rfl rfl rfl (fun b21 b22 => ?_)
      have hD := hD b21 b22
      show u_P L xs m d m_X12_feeds 14 [(0, .ref 100), (1, .int x1), (2, .int x2)] [.int (S 124 x1.toInt.toNat)] S R _
      refine u_if_le rfl (fun h3 => ?_) (fun h3 => ?_)
      · have hD := hD.1 h3
        show u_P L xs m d m_X12_feeds 66 [(0, .ref 100), (1, .int x1), (2, .int x2)] [] S R _
        exact u_ret rfl rfl ⟨rfl, rfl, hD⟩
      · have hD := hD.2 h3
        show u_P L xs m d m_X12_feeds 17 [(0, .ref 100), (1, .int x1), (2, .int x2)] [] S R _
        refine u_st rfl (fun _ => rfl) ?_
        refine u_st rfl (fun _ => rfl) ?_
        refine u_st rfl (fun _ => rfl) ?_
        show u_P L xs m d m_X12_feeds 20 [(0, .ref 100), (1, .int x1), (2, .int x2)] [.int x1, .int x2, .ref 100] S R _
        refine u_cv (rest := []) rfl (by decide) mt_X12_isIn v_tyM rfl rfl rfl (Nat.le_of_ble_eq_true rfl) (Nat.le_of_ble_eq_true rfl) (Nat.le_of_ble_eq_true rfl) (fun d' => c_X12_isIn L xs m d' x2 x1 S R) ?_
        rintro _ _ _ ⟨_, rfl, rfl, rfl, rfl⟩
        show u_P L xs m d m_X12_feeds 23 [(0, .ref 100), (1, .int x1), (2, .int x2)] [.int (f_X12_isIn x2 x1 S)] S R _
        refine u_if_ne rfl (fun h4 => ?_) (fun h4 => ?_)
        · have hD := hD.1 h4
          show u_P L xs m d m_X12_feeds 29 [(0, .ref 100), (1, .int x1), (2, .int x2)] [] S R _
          refine u_st rfl (fun _ => rfl) ?_
          refine u_st rfl (fun _ => rfl) ?_
          show u_P L xs m d m_X12_feeds 31 [(0, .ref 100), (1, .int x1), (2, .int x2)] [.int x2, .ref 100] S R _
          refine u_cv (rest := []) rfl (by decide) mt_X12_gustStands v_tyM rfl rfl rfl (Nat.le_of_ble_eq_true rfl) (Nat.le_of_ble_eq_true rfl) (Nat.le_of_ble_eq_true rfl) (fun d' => c_X12_gustStands L xs m d' x2 S R) ?_
          rintro _ _ _ ⟨rfl, rfl, rfl⟩
          refine u_st rfl (fun _ => rfl) ?_
          show u_P L xs m d m_X12_feeds 35 [(0, .ref 100), (1, .int x1), (2, .int x2)] [.ref 100] (g_X12_gustStands x2 S) R _
          refine u_getr rfl v_tyM rfl ?_
          refine u_st rfl (fun _ => rfl) ?_
          refine u_st rfl (fun _ => rfl) ?_
          show u_P L xs m d m_X12_feeds 40 [(0, .ref 100), (1, .int x1), (2, .int x2)] [.ref 100, .int x2, .ref 118] (g_X12_gustStands x2 S) R _
          refine u_getr rfl v_tyM rfl ?_
          refine u_st rfl (fun _ => rfl) ?_
          show u_P L xs m d m_X12_feeds 44 [(0, .ref 100), (1, .int x1), (2, .int x2)] [.int x2, .ref 118, .int x2, .ref 118] (g_X12_gustStands x2 S) R _
          refine u_ialdE (v := (g_X12_gustStands x2 S) 117 x2.toInt.toNat) rfl rfl rfl (fun b51 b52 => ?_)
          have hD := hD b51 b52
          show u_P L xs m d m_X12_feeds 45 [(0, .ref 100), (1, .int x1), (2, .int x2)] [.int ((g_X12_gustStands x2 S) 117 x2.toInt.toNat), .int x2, .ref 118] (g_X12_gustStands x2 S) R _
          refine u_st rfl (fun _ => rfl) ?_
          refine u_st rfl (fun _ => rfl) ?_
          refine u_st rfl (fun _ => rfl) ?_
          show u_P L xs m d m_X12_feeds 50 [(0, .ref 100), (1, .int x1), (2, .int x2)] [.int (Int32.ofInt 20), .int (Int32.ofInt 102), .ref 100, .int ((g_X12_gustStands x2 S) 117 x2.toInt.toNat), .int x2, .ref 118] (g_X12_gustStands x2 S) R _
          refine u_cv (rest := [.int ((g_X12_gustStands x2 S) 117 x2.toInt.toNat), .int x2, .ref 118]) rfl (by decide) mt_X12_tells v_tyM rfl rfl rfl (Nat.le_of_ble_eq_true rfl) (Nat.le_of_ble_eq_true rfl) (Nat.le_of_ble_eq_true rfl) (fun d' => c_X12_tells L xs m d' (Int32.ofInt 102) (Int32.ofInt 20) (g_X12_gustStands x2 S) R) ?_
          rintro _ _ _ ⟨_, rfl, rfl, rfl, rfl⟩
          refine u_st rfl (fun _ => rfl) ?_
          refine u_st rfl (fun _ => rfl) ?_
          show u_P L xs m d m_X12_feeds 56 [(0, .ref 100), (1, .int x1), (2, .int x2)] [.int (Int32.ofInt 99), .int (((g_X12_gustStands x2 S) 117 x2.toInt.toNat) + (f_X12_tells (Int32.ofInt 102) (Int32.ofInt 20) (g_X12_gustStands x2 S))), .int x2, .ref 118] (g_X12_tells (Int32.ofInt 102) (Int32.ofInt 20) (g_X12_gustStands x2 S)) R _
          refine u_cs (ac := [.int (((g_X12_gustStands x2 S) 117 x2.toInt.toNat) + (f_X12_tells (Int32.ofInt 102) (Int32.ofInt 20) (g_X12_gustStands x2 S))), .int (Int32.ofInt 99)]) (rest := [.int x2, .ref 118]) rfl (by decide) mt_X12_held (fun _ => rfl) (Nat.le_of_ble_eq_true rfl) (Nat.le_of_ble_eq_true rfl) (fun d' => c_X12_held L xs m d' (((g_X12_gustStands x2 S) 117 x2.toInt.toNat) + (f_X12_tells (Int32.ofInt 102) (Int32.ofInt 20) (g_X12_gustStands x2 S))) (Int32.ofInt 99) (g_X12_tells (Int32.ofInt 102) (Int32.ofInt 20) (g_X12_gustStands x2 S)) R) ?_
          rintro _ _ _ ⟨_, rfl, rfl, rfl, rfl⟩
          show u_P L xs m d m_X12_feeds 59 [(0, .ref 100), (1, .int x1), (2, .int x2)] [.int (f_X12_held (((g_X12_gustStands x2 S) 117 x2.toInt.toNat) + (f_X12_tells (Int32.ofInt 102) (Int32.ofInt 20) (g_X12_gustStands x2 S))) (Int32.ofInt 99)), .int x2, .ref 118] (g_X12_tells (Int32.ofInt 102) (Int32.ofInt 20) (g_X12_gustStands x2 S)) R _
          refine u_iast rfl rfl (fun b61 b62 => ?_)
          have hD := hD b61 b62
          show u_P L xs m d m_X12_feeds 60 [(0, .ref 100), (1, .int x1), (2, .int x2)] [] (z_s (g_X12_tells (Int32.ofInt 102) (Int32.ofInt 20) (g_X12_gustStands x2 S)) 117 x2.toInt.toNat (f_X12_held (((g_X12_gustStands x2 S) 117 x2.toInt.toNat) + (f_X12_tells (Int32.ofInt 102) (Int32.ofInt 20) (g_X12_gustStands x2 S))) (Int32.ofInt 99))) R _
          refine u_st rfl (fun _ => rfl) ?_
          refine u_st rfl (fun _ => rfl) ?_
          refine u_lc (b := [(0, .ref 100), (1, .int x1), (2, .int (x2 + (Int32.ofInt 1)))]) (show ([2, 0, 1] : List Nat).Nodup by decide) (show ([0, 1, 2] : List Nat).Nodup by decide) (fun i => match i with | 0 => rfl | 1 => rfl | 2 => rfl | _ + 3 => rfl) ?_
          exact (ih m hm) d x1 (x2 + (Int32.ofInt 1)) (z_s (g_X12_tells (Int32.ofInt 102) (Int32.ofInt 20) (g_X12_gustStands x2 S)) 117 x2.toInt.toNat (f_X12_held (((g_X12_gustStands x2 S) 117 x2.toInt.toNat) + (f_X12_tells (Int32.ofInt 102) (Int32.ofInt 20) (g_X12_gustStands x2 S))) (Int32.ofInt 99))) hD
        · have hD := hD.2 h4
          show u_P L xs m d m_X12_feeds 26 [(0, .ref 100), (1, .int x1), (2, .int x2)] [] S R _
          refine u_st rfl (fun _ => rfl) ?_
          refine u_st rfl (fun _ => rfl) ?_
          refine u_st rfl (fun _ => rfl) ?_
          refine u_lc (b := [(0, .ref 100), (1, .int x1), (2, .int (x2 + (Int32.ofInt 1)))]) (show ([2, 0, 1] : List Nat).Nodup by decide) (show ([0, 1, 2] : List Nat).Nodup by decide) (fun i => match i with | 0 => rfl | 1 => rfl | 2 => rfl | _ + 3 => rfl) ?_
          exact (ih m hm) d x1 (x2 + (Int32.ofInt 1)) S hD
set_option maxRecDepth 4000 in
theorem w_X12_feeds (L : Nat) (xs : Nat → Int32) {R : v_Rf} (w : Int32) (H2 : Int32 → Int32 → v_Sf → Prop) (K : v_Sf → Prop) (k2 : ∀ (x1 : Int32) (x2 : Int32) (S : v_Sf), H2 x1 x2 S → D_X12_feeds_2 H2 K x1 x2 S) (n d : Nat) (S : v_Sf) (hD : D_X12_feeds w H2 K S) : u_P L xs n d m_X12_feeds 0 (lv_args 0 [.ref 100, .int w]) [] S R (z_V R K) := by
  unfold D_X12_feeds at hD
  show u_P L xs n d m_X12_feeds 0 [(0, .ref 100), (1, .int w)] [] S R _
  refine u_st rfl (fun _ => rfl) ?_
  refine u_st rfl (fun _ => rfl) ?_
  refine u_lc (b := [(0, .ref 100), (1, .int w), (2, .int (Int32.ofInt 0))]) (show ([2, 0, 1] : List Nat).Nodup by decide) (show ([0, 1, 2] : List Nat).Nodup by decide) (fun i => match i with | 0 => rfl | 1 => rfl | 2 => rfl | _ + 3 => rfl) ?_
  exact (hd_X12_feeds L xs w H2 K k2 n) d w (Int32.ofInt 0) S hD
noncomputable def r_X12_feeds_2 (x1 : Int32) : Nat → Nat → v_Sf → v_Sf
  | 0, k2, S => S
  | r + 1, k2, S => (if (S 124 x1.toInt.toNat) ≤ 0 then S else (if ¬ (f_X12_isIn (z_i k2) x1 S) = 0 then r_X12_feeds_2 x1 r (k2 + 1) (z_s (g_X12_tells (Int32.ofInt 102) (Int32.ofInt 20) (g_X12_gustStands (z_i k2) S)) 117 (z_i k2).toInt.toNat (f_X12_held (((g_X12_gustStands (z_i k2) S) 117 (z_i k2).toInt.toNat) + (f_X12_tells (Int32.ofInt 102) (Int32.ofInt 20) (g_X12_gustStands (z_i k2) S))) (Int32.ofInt 99))) else r_X12_feeds_2 x1 r (k2 + 1) S))
noncomputable def F_X12_feeds (w : Int32) (S : v_Sf) : v_Sf := r_X12_feeds_2 w (12 - 0) 0 S
noncomputable def g_X12_feeds (w : Int32) (S : v_Sf) : v_Sf := F_X12_feeds w S
theorem c_X12_feeds (L : Nat) (xs : Nat → Int32) (n d : Nat) (w : Int32) (S : v_Sf) (R : v_Rf) : u_P L xs n d m_X12_feeds 0 (lv_args 0 [.ref 100, .int w]) [] S R (z_V R (fun S1 => g_X12_feeds w S = S1)) := by
  refine w_X12_feeds L xs w (fun y1 y2 T => ∃ (k2 : Nat), k2 ≤ 12 ∧ z_i k2 = y2 ∧ w = y1 ∧ r_X12_feeds_2 w (12 - k2) k2 T = F_X12_feeds w S) (fun S1 => g_X12_feeds w S = S1) ?_ n d S ?_
  · rintro _ _ S1 ⟨k2, hkk, rfl, rfl, e⟩
    unfold D_X12_feeds_2
    rcases Nat.lt_or_ge k2 (12) with hk | hk
    · rw [show 12 - k2 = (12 - (k2 + 1)) + 1 by omega, r_X12_feeds_2] at e
      refine ⟨fun q1 => ?_, fun q1 => ?_⟩
      · exact absurd hk (Nat.not_lt.mpr (z_leB2 (B := 12) q1 (by decide) (by omega)))
      · intro _ _
        refine ⟨fun q2 => ?_, fun q2 => ?_⟩
        · rw [if_pos q2] at e
          exact e.symm
        · refine ⟨fun q3 => ?_, fun q3 => ?_⟩
          · intro _ _
            intro _ _
            rw [if_neg q2, if_pos q3] at e
            exact ⟨(k2 + 1), by omega, (z_i1 k2).symm, rfl, e⟩
          · rw [if_neg q2, if_neg q3] at e
            exact ⟨(k2 + 1), by omega, (z_i1 k2).symm, rfl, e⟩
    · rw [show 12 - k2 = 0 by omega, r_X12_feeds_2] at e
      refine ⟨fun q4 => ?_, fun q4 => ?_⟩
      · exact e.symm
      · exact absurd hk (Nat.not_le.mpr (z_ltB2 (B := 12) q4 (by decide) (by omega)))
  · unfold D_X12_feeds
    have e : r_X12_feeds_2 w (12 - 0) 0 S = F_X12_feeds w S := by rw [F_X12_feeds]
    exact ⟨0, by omega, rfl, rfl, e⟩
noncomputable abbrev m_X12_teaches : g_M := (g_cn 12, yX12_teaches, cX12_teaches, 4, none, g_look2 ttX12_teaches)
set_option maxRecDepth 20000 in
theorem mt_X12_teaches : g_mt 231 = some m_X12_teaches := rfl
noncomputable def D_X12_teaches_8  (H8 : Int32 → Int32 → Int32 → v_Sf → Prop) (K : v_Sf → Prop) (x1 : Int32) (x2 : Int32) (x3 : Int32) (S : v_Sf) : Prop := (((Int32.ofInt 12) ≤ x3 → K S) ∧ (¬ ((Int32.ofInt 12) ≤ x3) → ((x2 = (Int32.ofInt (-1)) → K S) ∧ (¬ (x2 = (Int32.ofInt (-1))) → (((f_X12_isIn x3 x1 S) = 0 → H8 x1 x2 (x3 + (Int32.ofInt 1)) S) ∧ (¬ ((f_X12_isIn x3 x1 S) = 0) → (0 ≤ x3.toInt → x3.toInt < 12 → (((¬ (f_X12_has (S 122 x3.toInt.toNat) x2) = 0) → H8 x1 x2 (x3 + (Int32.ofInt 1)) S) ∧ (¬ (¬ (f_X12_has (S 122 x3.toInt.toNat) x2) = 0) → (0 ≤ x2.toInt → x2.toInt < 10 → (0 ≤ x3.toInt → x3.toInt < 12 → ((((S 132 x2.toInt.toNat) &&& ((S 122 x3.toInt.toNat) ^^^ (Int32.ofInt (-1)))) = 0 → (((¬ (f_X12_says (Int32.ofInt 101) (z_s (g_X12_gustStands x3 S) 99 35 x2)) = 0) → (0 ≤ x3.toInt → x3.toInt < 12 → (0 ≤ x3.toInt → x3.toInt < 12 → H8 x1 x2 (x3 + (Int32.ofInt 1)) (z_s (z_s (g_X12_says (Int32.ofInt 101) (z_s (g_X12_gustStands x3 S) 99 35 x2)) 122 x3.toInt.toNat (((g_X12_says (Int32.ofInt 101) (z_s (g_X12_gustStands x3 S) 99 35 x2)) 122 x3.toInt.toNat) ||| ((Int32.ofInt 1) <<< (x2 &&& 31)))) 99 70 (((g_X12_says (Int32.ofInt 101) (z_s (g_X12_gustStands x3 S) 99 35 x2)) 99 70) + (Int32.ofInt 1)))))) ∧ (¬ (¬ (f_X12_says (Int32.ofInt 101) (z_s (g_X12_gustStands x3 S) 99 35 x2)) = 0) → H8 x1 x2 (x3 + (Int32.ofInt 1)) (g_X12_says (Int32.ofInt 101) (z_s (g_X12_gustStands x3 S) 99 35 x2))))) ∧ (¬ (((S 132 x2.toInt.toNat) &&& ((S 122 x3.toInt.toNat) ^^^ (Int32.ofInt (-1)))) = 0) → H8 x1 x2 (x3 + (Int32.ofInt 1)) S)))))))))))))
noncomputable def D_X12_teaches (w : Int32) (H8 : Int32 → Int32 → Int32 → v_Sf → Prop) (K : v_Sf → Prop) (S : v_Sf) : Prop := H8 w (f_X12_lessonOf w S) (Int32.ofInt 0) S
set_option maxRecDepth 4000 in
theorem hd_X12_teaches (L : Nat) (xs : Nat → Int32) {R : v_Rf} (w : Int32) (H8 : Int32 → Int32 → Int32 → v_Sf → Prop) (K : v_Sf → Prop) (k8 : ∀ (x1 : Int32) (x2 : Int32) (x3 : Int32) (S : v_Sf), H8 x1 x2 x3 S → D_X12_teaches_8 H8 K x1 x2 x3 S) : ∀ n, (∀ (d : Nat) (x1 : Int32) (x2 : Int32) (x3 : Int32) (S : v_Sf), H8 x1 x2 x3 S → u_P L xs n d m_X12_teaches 8 [(0, .ref 100), (1, .int x1), (2, .int x2), (3, .int x3)] [] S R (z_V R K)) := by
  intro n
  induction n using Nat.strongRecOn with
  | ind n ih =>
    intro d x1 x2 x3 S hD
    have hD := k8 x1 x2 x3 S hD
    unfold D_X12_teaches_8 at hD
    show u_P L xs n d m_X12_teaches 8 [(0, .ref 100), (1, .int x1), (2, .int x2), (3, .int x3)] [] S R _
    refine u_st1 rfl (fun _ => rfl) (fun m hm => ?_)
    refine u_st rfl (fun _ => rfl) ?_
    show u_P L xs m d m_X12_teaches 11 [(0, .ref 100), (1, .int x1), (2, .int x2), (3, .int x3)] [.int (Int32.ofInt 12), .int x3] S R _
    refine u_ic_ge rfl (fun h1 => ?_) (fun h1 => ?_)
    · have hD := hD.1 h1
      show u_P L xs m d m_X12_teaches 112 [(0, .ref 100), (1, .int x1), (2, .int x2), (3, .int x3)] [] S R _
      exact u_ret rfl rfl ⟨rfl, rfl, hD⟩
    · have hD := hD.2 h1
      show u_P L xs m d m_X12_teaches 14 [(0, .ref 100), (1, .int x1), (2, .int x2), (3, .int x3)] [] S R _
      refine u_st rfl (fun _ => rfl) ?_
      refine u_st rfl (fun _ => rfl) ?_
      show u_P L xs m d m_X12_teaches 16 [(0, .ref 100), (1, .int x1), (2, .int x2), (3, .int x3)] [.int (Int32.ofInt (-1)), .int x2] S R _
      refine u_ic_eq rfl (fun h2 => ?_) (fun h2 => ?_)
      · have hD := hD.1 h2
        show u_P L xs m d m_X12_teaches 112 [(0, .ref 100), (1, .int x1), (2, .int x2), (3, .int x3)] [] S R _
        exact u_ret rfl rfl ⟨rfl, rfl, hD⟩
      · have hD := hD.2 h2
        show u_P L xs m d m_X12_teaches 19 [(0, .ref 100), (1, .int x1), (2, .int x2), (3, .int x3)] [] S R _
        refine u_st rfl (fun _ => rfl) ?_
        refine u_st rfl (fun _ => rfl) ?_
        refine u_st rfl (fun _ => rfl) ?_
        show u_P L xs m d m_X12_teaches 22 [(0, .ref 100), (1, .int x1), (2, .int x2), (3, .int x3)] [.int x1, .int x3, .ref 100] S R _
        refine u_cv (rest := []) rfl (by decide) mt_X12_isIn v_tyM rfl rfl rfl (Nat.le_of_ble_eq_true rfl) (Nat.le_of_ble_eq_true rfl) (Nat.le_of_ble_eq_true rfl) (fun d' => c_X12_isIn L xs m d' x3 x1 S R) ?_
        rintro _ _ _ ⟨_, rfl, rfl, rfl, rfl⟩
        show u_P L xs m d m_X12_teaches 25 [(0, .ref 100), (1, .int x1), (2, .int x2), (3, .int x3)] [.int (f_X12_isIn x3 x1 S)] S R _
        refine u_if_eq rfl (fun h3 => ?_) (fun h3 => ?_)
        · have hD := hD.1 h3
          show u_P L xs m d m_X12_teaches 106 [(0, .ref 100), (1, .int x1), (2, .int x2), (3, .int x3)] [] S R _
          refine u_st rfl (fun _ => rfl) ?_
          refine u_st rfl (fun _ => rfl) ?_
          refine u_lc (b := [(0, .ref 100), (1, .int x1), (2, .int x2), (3, .int (x3 + (Int32.ofInt 1)))]) (show ([3, 0, 1, 2] : List Nat).Nodup by decide) (show ([0, 1, 2, 3] : List Nat).Nodup by decide) (fun i => match i with | 0 => rfl | 1 => rfl | 2 => rfl | 3 => rfl | _ + 4 => rfl) ?_
          exact (ih m hm) d x1 x2 (x3 + (Int32.ofInt 1)) S hD
        · have hD := hD.2 h3
          show u_P L xs m d m_X12_teaches 28 [(0, .ref 100), (1, .int x1), (2, .int x2), (3, .int x3)] [] S R _
          refine u_st rfl (fun _ => rfl) ?_
          show u_P L xs m d m_X12_teaches 29 [(0, .ref 100), (1, .int x1), (2, .int x2), (3, .int x3)] [.ref 100] S R _
          refine u_getr rfl v_tyM rfl ?_
          refine u_st rfl (fun _ => rfl) ?_
          show u_P L xs m d m_X12_teaches 33 [(0, .ref 100), (1, .int x1), (2, .int x2), (3, .int x3)] [.int x3, .ref 123] S R _
          refine u_ialdE (v := S 122 x3.toInt.toNat) rfl rfl rfl (fun b41 b42 => ?_)
          have hD := hD b41 b42
          show u_P L xs m d m_X12_teaches 34 [(0, .ref 100), (1, .int x1), (2, .int x2), (3, .int x3)] [.int (S 122 x3.toInt.toNat)] S R _
          refine u_st rfl (fun _ => rfl) ?_
          show u_P L xs m d m_X12_teaches 35 [(0, .ref 100), (1, .int x1), (2, .int x2), (3, .int x3)] [.int x2, .int (S 122 x3.toInt.toNat)] S R _
          refine u_cs (ac := [.int (S 122 x3.toInt.toNat), .int x2]) (rest := []) rfl (by decide) mt_X12_has (fun _ => rfl) (Nat.le_of_ble_eq_true rfl) (Nat.le_of_ble_eq_true rfl) (fun d' => c_X12_has L xs m d' (S 122 x3.toInt.toNat) x2 S R) ?_
          rintro _ _ _ ⟨_, rfl, rfl, rfl, rfl⟩
          show u_P L xs m d m_X12_teaches 38 [(0, .ref 100), (1, .int x1), (2, .int x2), (3, .int x3)] [.int (f_X12_has (S 122 x3.toInt.toNat) x2)] S R _
          refine u_if_ne rfl (fun h5 => ?_) (fun h5 => ?_)
          · have hD := hD.1 h5
            show u_P L xs m d m_X12_teaches 106 [(0, .ref 100), (1, .int x1), (2, .int x2), (3, .int x3)] [] S R _
            refine u_st rfl (fun _ => rfl) ?_
            refine u_st rfl (fun _ => rfl) ?_
            refine u_lc (b := [(0, .ref 100), (1, .int x1), (2, .int x2), (3, .int (x3 + (Int32.ofInt 1)))]) (show ([3, 0, 1, 2] : List Nat).Nodup by decide) (show ([0, 1, 2, 3] : List Nat).Nodup by decide) (fun i => match i with | 0 => rfl | 1 => rfl | 2 => rfl | 3 => rfl | _ + 4 => rfl) ?_
            exact (ih m hm) d x1 x2 (x3 + (Int32.ofInt 1)) S hD
          · have hD := hD.2 h5
            show u_P L xs m d m_X12_teaches 41 [(0, .ref 100), (1, .int x1), (2, .int x2), (3, .int x3)] [] S R _
            refine u_st rfl (fun _ => rfl) ?_
            show u_P L xs m d m_X12_teaches 42 [(0, .ref 100), (1, .int x1), (2, .int x2), (3, .int x3)] [.ref 100] S R _
            refine u_getr rfl v_tyM rfl ?_
            refine u_st rfl (fun _ => rfl) ?_
            show u_P L xs m d m_X12_teaches 46 [(0, .ref 100), (1, .int x1), (2, .int x2), (3, .int x3)] [.int x2, .ref 133] S R _
            refine u_ialdE (v := S 132 x2.toInt.toNat) rfl rfl rfl (fun b61 b62 => ?_)
            have hD := hD b61 b62
            show u_P L xs m d m_X12_teaches 47 [(0, .ref 100), (1, .int x1), (2, .int x2), (3, .int x3)] [.int (S 132 x2.toInt.toNat)] S R _
            refine u_st rfl (fun _ => rfl) ?_
            show u_P L xs m d m_X12_teaches 48 [(0, .ref 100), (1, .int x1), (2, .int x2), (3, .int x3)] [.ref 100, .int (S 132 x2.toInt.toNat)] S R _
            refine u_getr rfl v_tyM rfl ?_
            refine u_st rfl (fun _ => rfl) ?_
            show u_P L xs m d m_X12_teaches 52 [(0, .ref 100), (1, .int x1), (2, .int x2), (3, .int x3)] [.int x3, .ref 123, .int (S 132 x2.toInt.toNat)] S R _
            refine u_ialdE (v := S 122 x3.toInt.toNat) rfl rfl rfl (fun b71 b72 => ?_)
            have hD := hD b71 b72
            show u_P L xs m d m_X12_teaches 53 [(0, .ref 100), (1, .int x1), (2, .int x2), (3, .int x3)] [.int (S 122 x3.toInt.toNat), .int (S 132 x2.toInt.toNat)] S R _
            refine u_st rfl (fun _ => rfl) ?_
            refine u_st rfl (fun _ => rfl) ?_
            refine u_st rfl (fun _ => rfl) ?_
            show u_P L xs m d m_X12_teaches 56 [(0, .ref 100), (1, .int x1), (2, .int x2), (3, .int x3)] [.int ((S 132 x2.toInt.toNat) &&& ((S 122 x3.toInt.toNat) ^^^ (Int32.ofInt (-1))))] S R _
            refine u_if_eq rfl (fun h8 => ?_) (fun h8 => ?_)
            · have hD := hD.1 h8
              show u_P L xs m d m_X12_teaches 62 [(0, .ref 100), (1, .int x1), (2, .int x2), (3, .int x3)] [] S R _
              refine u_st rfl (fun _ => rfl) ?_
              refine u_st rfl (fun _ => rfl) ?_
              show u_P L xs m d m_X12_teaches 64 [(0, .ref 100), (1, .int x1), (2, .int x2), (3, .int x3)] [.int x3, .ref 100] S R _
              refine u_cv (rest := []) rfl (by decide) mt_X12_gustStands v_tyM rfl rfl rfl (Nat.le_of_ble_eq_true rfl) (Nat.le_of_ble_eq_true rfl) (Nat.le_of_ble_eq_true rfl) (fun d' => c_X12_gustStands L xs m d' x3 S R) ?_
              rintro _ _ _ ⟨rfl, rfl, rfl⟩
              refine u_st rfl (fun _ => rfl) ?_
              refine u_st rfl (fun _ => rfl) ?_
              show u_P L xs m d m_X12_teaches 69 [(0, .ref 100), (1, .int x1), (2, .int x2), (3, .int x3)] [.int x2, .ref 100] (g_X12_gustStands x3 S) R _
              refine u_put rfl v_tyM rfl ?_
              refine u_st rfl (fun _ => rfl) ?_
              refine u_st rfl (fun _ => rfl) ?_
              show u_P L xs m d m_X12_teaches 75 [(0, .ref 100), (1, .int x1), (2, .int x2), (3, .int x3)] [.int (Int32.ofInt 101), .ref 100] (z_s (g_X12_gustStands x3 S) 99 35 x2) R _
              refine u_cv (rest := []) rfl (by decide) mt_X12_says v_tyM rfl rfl rfl (Nat.le_of_ble_eq_true rfl) (Nat.le_of_ble_eq_true rfl) (Nat.le_of_ble_eq_true rfl) (fun d' => c_X12_says L xs m d' (Int32.ofInt 101) (z_s (g_X12_gustStands x3 S) 99 35 x2) R) ?_
              rintro _ _ _ ⟨_, rfl, rfl, rfl, rfl⟩
              show u_P L xs m d m_X12_teaches 78 [(0, .ref 100), (1, .int x1), (2, .int x2), (3, .int x3)] [.int (f_X12_says (Int32.ofInt 101) (z_s (g_X12_gustStands x3 S) 99 35 x2))] (g_X12_says (Int32.ofInt 101) (z_s (g_X12_gustStands x3 S) 99 35 x2)) R _
              refine u_if_ne rfl (fun h9 => ?_) (fun h9 => ?_)
              · have hD := hD.1 h9
                show u_P L xs m d m_X12_teaches 84 [(0, .ref 100), (1, .int x1), (2, .int x2), (3, .int x3)] [] (g_X12_says (Int32.ofInt 101) (z_s (g_X12_gustStands x3 S) 99 35 x2)) R _
                refine u_st rfl (fun _ => rfl) ?_
                show u_P L xs m d m_X12_teaches 85 [(0, .ref 100), (1, .int x1), (2, .int x2), (3, .int x3)] [.ref 100] (g_X12_says (Int32.ofInt 101) (z_s (g_X12_gustStands x3 S) 99 35 x2)) R _
                refine u_getr rfl v_tyM rfl ?_
                refine u_st rfl (fun _ => rfl) ?_
                refine u_st rfl (fun _ => rfl) ?_
                show u_P L xs m d m_X12_teaches 90 [(0, .ref 100), (1, .int x1), (2, .int x2), (3, .int x3)] [.int x3, .ref 123, .int x3, .ref 123] (g_X12_says (Int32.ofInt 101) (z_s (g_X12_gustStands x3 S) 99 35 x2)) R _
                refine u_ialdE (v := (g_X12_says (Int32.ofInt 101) (z_s (g_X12_gustStands x3 S) 99 35 x2)) 122 x3.toInt.toNat) rfl rfl rfl (fun b101 b102 => ?_)
                have hD := hD b101 b102
                show u_P L xs m d m_X12_teaches 91 [(0, .ref 100), (1, .int x1), (2, .int x2), (3, .int x3)] [.int ((g_X12_says (Int32.ofInt 101) (z_s (g_X12_gustStands x3 S) 99 35 x2)) 122 x3.toInt.toNat), .int x3, .ref 123] (g_X12_says (Int32.ofInt 101) (z_s (g_X12_gustStands x3 S) 99 35 x2)) R _
                refine u_st rfl (fun _ => rfl) ?_
                refine u_st rfl (fun _ => rfl) ?_
                refine u_st rfl (fun _ => rfl) ?_
                refine u_st rfl (fun _ => rfl) ?_
                show u_P L xs m d m_X12_teaches 95 [(0, .ref 100), (1, .int x1), (2, .int x2), (3, .int x3)] [.int (((g_X12_says (Int32.ofInt 101) (z_s (g_X12_gustStands x3 S) 99 35 x2)) 122 x3.toInt.toNat) ||| ((Int32.ofInt 1) <<< (x2 &&& 31))), .int x3, .ref 123] (g_X12_says (Int32.ofInt 101) (z_s (g_X12_gustStands x3 S) 99 35 x2)) R _
                refine u_iast rfl rfl (fun b111 b112 => ?_)
                have hD := hD b111 b112
                show u_P L xs m d m_X12_teaches 96 [(0, .ref 100), (1, .int x1), (2, .int x2), (3, .int x3)] [] (z_s (g_X12_says (Int32.ofInt 101) (z_s (g_X12_gustStands x3 S) 99 35 x2)) 122 x3.toInt.toNat (((g_X12_says (Int32.ofInt 101) (z_s (g_X12_gustStands x3 S) 99 35 x2)) 122 x3.toInt.toNat) ||| ((Int32.ofInt 1) <<< (x2 &&& 31)))) R _
                refine u_st rfl (fun _ => rfl) ?_
                refine u_st rfl (fun _ => rfl) ?_
                show u_P L xs m d m_X12_teaches 98 [(0, .ref 100), (1, .int x1), (2, .int x2), (3, .int x3)] [.ref 100, .ref 100] (z_s (g_X12_says (Int32.ofInt 101) (z_s (g_X12_gustStands x3 S) 99 35 x2)) 122 x3.toInt.toNat (((g_X12_says (Int32.ofInt 101) (z_s (g_X12_gustStands x3 S) 99 35 x2)) 122 x3.toInt.toNat) ||| ((Int32.ofInt 1) <<< (x2 &&& 31)))) R _
                refine u_getE (v := (g_X12_says (Int32.ofInt 101) (z_s (g_X12_gustStands x3 S) 99 35 x2)) 99 70) rfl v_tyM rfl (z_sn (fun h => absurd h.1 (by decide))) ?_
                refine u_st rfl (fun _ => rfl) ?_
                refine u_st rfl (fun _ => rfl) ?_
                show u_P L xs m d m_X12_teaches 103 [(0, .ref 100), (1, .int x1), (2, .int x2), (3, .int x3)] [.int (((g_X12_says (Int32.ofInt 101) (z_s (g_X12_gustStands x3 S) 99 35 x2)) 99 70) + (Int32.ofInt 1)), .ref 100] (z_s (g_X12_says (Int32.ofInt 101) (z_s (g_X12_gustStands x3 S) 99 35 x2)) 122 x3.toInt.toNat (((g_X12_says (Int32.ofInt 101) (z_s (g_X12_gustStands x3 S) 99 35 x2)) 122 x3.toInt.toNat) ||| ((Int32.ofInt 1) <<< (x2 &&& 31)))) R _
                refine u_put rfl v_tyM rfl ?_
                refine u_st rfl (fun _ => rfl) ?_
                refine u_st rfl (fun _ => rfl) ?_
                refine u_lc (b := [(0, .ref 100), (1, .int x1), (2, .int x2), (3, .int (x3 + (Int32.ofInt 1)))]) (show ([3, 0, 1, 2] : List Nat).Nodup by decide) (show ([0, 1, 2, 3] : List Nat).Nodup by decide) (fun i => match i with | 0 => rfl | 1 => rfl | 2 => rfl | 3 => rfl | _ + 4 => rfl) ?_
                exact (ih m hm) d x1 x2 (x3 + (Int32.ofInt 1)) (z_s (z_s (g_X12_says (Int32.ofInt 101) (z_s (g_X12_gustStands x3 S) 99 35 x2)) 122 x3.toInt.toNat (((g_X12_says (Int32.ofInt 101) (z_s (g_X12_gustStands x3 S) 99 35 x2)) 122 x3.toInt.toNat) ||| ((Int32.ofInt 1) <<< (x2 &&& 31)))) 99 70 (((g_X12_says (Int32.ofInt 101) (z_s (g_X12_gustStands x3 S) 99 35 x2)) 99 70) + (Int32.ofInt 1))) hD
              · have hD := hD.2 h9
                show u_P L xs m d m_X12_teaches 81 [(0, .ref 100), (1, .int x1), (2, .int x2), (3, .int x3)] [] (g_X12_says (Int32.ofInt 101) (z_s (g_X12_gustStands x3 S) 99 35 x2)) R _
                refine u_st rfl (fun _ => rfl) ?_
                refine u_st rfl (fun _ => rfl) ?_
                refine u_st rfl (fun _ => rfl) ?_
                refine u_lc (b := [(0, .ref 100), (1, .int x1), (2, .int x2), (3, .int (x3 + (Int32.ofInt 1)))]) (show ([3, 0, 1, 2] : List Nat).Nodup by decide) (show ([0, 1, 2, 3] : List Nat).Nodup by decide) (fun i => match i with | 0 => rfl | 1 => rfl | 2 => rfl | 3 => rfl | _ + 4 => rfl) ?_
                exact (ih m hm) d x1 x2 (x3 + (Int32.ofInt 1)) (g_X12_says (Int32.ofInt 101) (z_s (g_X12_gustStands x3 S) 99 35 x2)) hD
            · have hD := hD.2 h8
              show u_P L xs m d m_X12_teaches 59 [(0, .ref 100), (1, .int x1), (2, .int x2), (3, .int x3)] [] S R _
              refine u_st rfl (fun _ => rfl) ?_
              refine u_st rfl (fun _ => rfl) ?_
              refine u_st rfl (fun _ => rfl) ?_
              refine u_lc (b := [(0, .ref 100), (1, .int x1), (2, .int x2), (3, .int (x3 + (Int32.ofInt 1)))]) (show ([3, 0, 1, 2] : List Nat).Nodup by decide) (show ([0, 1, 2, 3] : List Nat).Nodup by decide) (fun i => match i with | 0 => rfl | 1 => rfl | 2 => rfl | 3 => rfl | _ + 4 => rfl) ?_
              exact (ih m hm) d x1 x2 (x3 + (Int32.ofInt 1)) S hD
set_option maxRecDepth 4000 in
theorem w_X12_teaches (L : Nat) (xs : Nat → Int32) {R : v_Rf} (w : Int32) (H8 : Int32 → Int32 → Int32 → v_Sf → Prop) (K : v_Sf → Prop) (k8 : ∀ (x1 : Int32) (x2 : Int32) (x3 : Int32) (S : v_Sf), H8 x1 x2 x3 S → D_X12_teaches_8 H8 K x1 x2 x3 S) (n d : Nat) (S : v_Sf) (hD : D_X12_teaches w H8 K S) : u_P L xs n d m_X12_teaches 0 (lv_args 0 [.ref 100, .int w]) [] S R (z_V R K) := by
  unfold D_X12_teaches at hD
  show u_P L xs n d m_X12_teaches 0 [(0, .ref 100), (1, .int w)] [] S R _
  refine u_st rfl (fun _ => rfl) ?_
  refine u_st rfl (fun _ => rfl) ?_
  show u_P L xs n d m_X12_teaches 2 [(0, .ref 100), (1, .int w)] [.int w, .ref 100] S R _
  refine u_cv (rest := []) rfl (by decide) mt_X12_lessonOf v_tyM rfl rfl rfl (Nat.le_of_ble_eq_true rfl) (Nat.le_of_ble_eq_true rfl) (Nat.le_of_ble_eq_true rfl) (fun d' => c_X12_lessonOf L xs n d' w S R) ?_
  rintro _ _ _ ⟨_, rfl, rfl, rfl, rfl⟩
  refine u_st rfl (fun _ => rfl) ?_
  refine u_st rfl (fun _ => rfl) ?_
  refine u_st rfl (fun _ => rfl) ?_
  refine u_lc (b := [(0, .ref 100), (1, .int w), (2, .int (f_X12_lessonOf w S)), (3, .int (Int32.ofInt 0))]) (show ([3, 2, 0, 1] : List Nat).Nodup by decide) (show ([0, 1, 2, 3] : List Nat).Nodup by decide) (fun i => match i with | 0 => rfl | 1 => rfl | 2 => rfl | 3 => rfl | _ + 4 => rfl) ?_
  exact (hd_X12_teaches L xs w H8 K k8 n) d w (f_X12_lessonOf w S) (Int32.ofInt 0) S hD
noncomputable def r_X12_teaches_8 (x1 : Int32) (x2 : Int32) : Nat → Nat → v_Sf → v_Sf
  | 0, k8, S => S
  | r + 1, k8, S => (if x2 = (Int32.ofInt (-1)) then S else (if (f_X12_isIn (z_i k8) x1 S) = 0 then r_X12_teaches_8 x1 x2 r (k8 + 1) S else (if ¬ (f_X12_has (S 122 (z_i k8).toInt.toNat) x2) = 0 then r_X12_teaches_8 x1 x2 r (k8 + 1) S else (if ((S 132 x2.toInt.toNat) &&& ((S 122 (z_i k8).toInt.toNat) ^^^ (Int32.ofInt (-1)))) = 0 then (if ¬ (f_X12_says (Int32.ofInt 101) (z_s (g_X12_gustStands (z_i k8) S) 99 35 x2)) = 0 then r_X12_teaches_8 x1 x2 r (k8 + 1) (z_s (z_s (g_X12_says (Int32.ofInt 101) (z_s (g_X12_gustStands (z_i k8) S) 99 35 x2)) 122 (z_i k8).toInt.toNat (((g_X12_says (Int32.ofInt 101) (z_s (g_X12_gustStands (z_i k8) S) 99 35 x2)) 122 (z_i k8).toInt.toNat) ||| ((Int32.ofInt 1) <<< (x2 &&& 31)))) 99 70 (((g_X12_says (Int32.ofInt 101) (z_s (g_X12_gustStands (z_i k8) S) 99 35 x2)) 99 70) + (Int32.ofInt 1))) else r_X12_teaches_8 x1 x2 r (k8 + 1) (g_X12_says (Int32.ofInt 101) (z_s (g_X12_gustStands (z_i k8) S) 99 35 x2))) else r_X12_teaches_8 x1 x2 r (k8 + 1) S))))
noncomputable def F_X12_teaches (w : Int32) (S : v_Sf) : v_Sf := r_X12_teaches_8 w (f_X12_lessonOf w S) (12 - 0) 0 S
noncomputable def g_X12_teaches (w : Int32) (S : v_Sf) : v_Sf := F_X12_teaches w S
theorem c_X12_teaches (L : Nat) (xs : Nat → Int32) (n d : Nat) (w : Int32) (S : v_Sf) (R : v_Rf) : u_P L xs n d m_X12_teaches 0 (lv_args 0 [.ref 100, .int w]) [] S R (z_V R (fun S1 => g_X12_teaches w S = S1)) := by
  refine w_X12_teaches L xs w (fun y1 y2 y3 T => ∃ (k8 : Nat), k8 ≤ 12 ∧ z_i k8 = y3 ∧ w = y1 ∧ f_X12_lessonOf w S = y2 ∧ r_X12_teaches_8 w (f_X12_lessonOf w S) (12 - k8) k8 T = F_X12_teaches w S) (fun S1 => g_X12_teaches w S = S1) ?_ n d S ?_
  · rintro _ _ _ S1 ⟨k8, hkk, rfl, rfl, rfl, e⟩
    unfold D_X12_teaches_8
    rcases Nat.lt_or_ge k8 (12) with hk | hk
    · rw [show 12 - k8 = (12 - (k8 + 1)) + 1 by omega, r_X12_teaches_8] at e
      refine ⟨fun q1 => ?_, fun q1 => ?_⟩
      · exact absurd hk (Nat.not_lt.mpr (z_leB2 (B := 12) q1 (by decide) (by omega)))
      · refine ⟨fun q2 => ?_, fun q2 => ?_⟩
        · rw [if_pos q2] at e
          exact e.symm
        · refine ⟨fun q3 => ?_, fun q3 => ?_⟩
          · rw [if_neg q2, if_pos q3] at e
            exact ⟨(k8 + 1), by omega, (z_i1 k8).symm, rfl, rfl, e⟩
          · intro _ _
            refine ⟨fun q4 => ?_, fun q4 => ?_⟩
            · rw [if_neg q2, if_neg q3, if_pos q4] at e
              exact ⟨(k8 + 1), by omega, (z_i1 k8).symm, rfl, rfl, e⟩
            · intro _ _
              intro _ _
              refine ⟨fun q5 => ?_, fun q5 => ?_⟩
              · refine ⟨fun q6 => ?_, fun q6 => ?_⟩
                · intro _ _
                  intro _ _
                  rw [if_neg q2, if_neg q3, if_neg q4, if_pos q5, if_pos q6] at e
                  exact ⟨(k8 + 1), by omega, (z_i1 k8).symm, rfl, rfl, e⟩
                · rw [if_neg q2, if_neg q3, if_neg q4, if_pos q5, if_neg q6] at e
                  exact ⟨(k8 + 1), by omega, (z_i1 k8).symm, rfl, rfl, e⟩
              · rw [if_neg q2, if_neg q3, if_neg q4, if_neg q5] at e
                exact ⟨(k8 + 1), by omega, (z_i1 k8).symm, rfl, rfl, e⟩
    · rw [show 12 - k8 = 0 by omega, r_X12_teaches_8] at e
      refine ⟨fun q7 => ?_, fun q7 => ?_⟩
      · exact e.symm
      · exact absurd hk (Nat.not_le.mpr (z_ltB2 (B := 12) q7 (by decide) (by omega)))
  · unfold D_X12_teaches
    have e : r_X12_teaches_8 w (f_X12_lessonOf w S) (12 - 0) 0 S = F_X12_teaches w S := by rw [F_X12_teaches]
    exact ⟨0, by omega, rfl, rfl, rfl, e⟩
noncomputable abbrev m_X12_wardsGo : g_M := (g_cn 12, yX12_wardsGo, cX12_wardsGo, 2, none, g_look2 ttX12_wardsGo)
set_option maxRecDepth 20000 in
theorem mt_X12_wardsGo : g_mt 232 = some m_X12_wardsGo := rfl
noncomputable def D_X12_wardsGo_2  (H2 : Int32 → v_Sf → Prop) (K : v_Sf → Prop) (x1 : Int32) (S : v_Sf) : Prop := (((Int32.ofInt 6) ≤ x1 → K S) ∧ (¬ ((Int32.ofInt 6) ≤ x1) → (((f_X12_isWell x1 S) = 0 → (0 ≤ x1.toInt → x1.toInt < 6 → (((S 127 x1.toInt.toNat) ≤ 0 → H2 (x1 + (Int32.ofInt 1)) S) ∧ (¬ ((S 127 x1.toInt.toNat) ≤ 0) → (0 ≤ x1.toInt → x1.toInt < 6 → (0 ≤ x1.toInt → x1.toInt < 6 → (¬ (S 127 x1.toInt.toNat) = 0 → (0 ≤ x1.toInt → x1.toInt < 6 → H2 (x1 + (Int32.ofInt 1)) (z_s S 128 x1.toInt.toNat (((S 128 x1.toInt.toNat) + (Int32.ofInt 1)) - ((S 128 x1.toInt.toNat) + (Int32.ofInt 1)) / (S 127 x1.toInt.toNat) * (S 127 x1.toInt.toNat))))))))))) ∧ (¬ ((f_X12_isWell x1 S) = 0) → (0 ≤ x1.toInt → x1.toInt < 6 → ((((g_X12_teaches x1 (g_X12_feeds x1 S)) 127 x1.toInt.toNat) ≤ 0 → H2 (x1 + (Int32.ofInt 1)) (g_X12_teaches x1 (g_X12_feeds x1 S))) ∧ (¬ (((g_X12_teaches x1 (g_X12_feeds x1 S)) 127 x1.toInt.toNat) ≤ 0) → (0 ≤ x1.toInt → x1.toInt < 6 → (0 ≤ x1.toInt → x1.toInt < 6 → (¬ ((g_X12_teaches x1 (g_X12_feeds x1 S)) 127 x1.toInt.toNat) = 0 → (0 ≤ x1.toInt → x1.toInt < 6 → H2 (x1 + (Int32.ofInt 1)) (z_s (g_X12_teaches x1 (g_X12_feeds x1 S)) 128 x1.toInt.toNat ((((g_X12_teaches x1 (g_X12_feeds x1 S)) 128 x1.toInt.toNat) + (Int32.ofInt 1)) - (((g_X12_teaches x1 (g_X12_feeds x1 S)) 128 x1.toInt.toNat) + (Int32.ofInt 1)) / ((g_X12_teaches x1 (g_X12_feeds x1 S)) 127 x1.toInt.toNat) * ((g_X12_teaches x1 (g_X12_feeds x1 S)) 127 x1.toInt.toNat))))))))))))))
noncomputable def D_X12_wardsGo  (H2 : Int32 → v_Sf → Prop) (K : v_Sf → Prop) (S : v_Sf) : Prop := H2 (Int32.ofInt 0) S
set_option maxRecDepth 4000 in
theorem hd_X12_wardsGo (L : Nat) (xs : Nat → Int32) {R : v_Rf}  (H2 : Int32 → v_Sf → Prop) (K : v_Sf → Prop) (k2 : ∀ (x1 : Int32) (S : v_Sf), H2 x1 S → D_X12_wardsGo_2 H2 K x1 S) : ∀ n, (∀ (d : Nat) (x1 : Int32) (S : v_Sf), H2 x1 S → u_P L xs n d m_X12_wardsGo 2 [(0, .ref 100), (1, .int x1)] [] S R (z_V R K)) := by
  intro n
  induction n using Nat.strongRecOn with
  | ind n ih =>
    intro d x1 S hD
    have hD := k2 x1 S hD
    unfold D_X12_wardsGo_2 at hD
    show u_P L xs n d m_X12_wardsGo 2 [(0, .ref 100), (1, .int x1)] [] S R _
    refine u_st1 rfl (fun _ => rfl) (fun m hm => ?_)
    refine u_st rfl (fun _ => rfl) ?_
    show u_P L xs m d m_X12_wardsGo 5 [(0, .ref 100), (1, .int x1)] [.int (Int32.ofInt 6), .int x1] S R _
    refine u_ic_ge rfl (fun h1 => ?_) (fun h1 => ?_)
    · have hD := hD.1 h1
      show u_P L xs m d m_X12_wardsGo 62 [(0, .ref 100), (1, .int x1)] [] S R _
      exact u_ret rfl rfl ⟨rfl, rfl, hD⟩
    · have hD := hD.2 h1
      show u_P L xs m d m_X12_wardsGo 8 [(0, .ref 100), (1, .int x1)] [] S R _
      refine u_st rfl (fun _ => rfl) ?_
      refine u_st rfl (fun _ => rfl) ?_
      show u_P L xs m d m_X12_wardsGo 10 [(0, .ref 100), (1, .int x1)] [.int x1, .ref 100] S R _
      refine u_cv (rest := []) rfl (by decide) mt_X12_isWell v_tyM rfl rfl rfl (Nat.le_of_ble_eq_true rfl) (Nat.le_of_ble_eq_true rfl) (Nat.le_of_ble_eq_true rfl) (fun d' => c_X12_isWell L xs m d' x1 S R) ?_
      rintro _ _ _ ⟨_, rfl, rfl, rfl, rfl⟩
      show u_P L xs m d m_X12_wardsGo 13 [(0, .ref 100), (1, .int x1)] [.int (f_X12_isWell x1 S)] S R _
      refine u_if_eq rfl (fun h2 => ?_) (fun h2 => ?_)
      · have hD := hD.1 h2
        show u_P L xs m d m_X12_wardsGo 26 [(0, .ref 100), (1, .int x1)] [] S R _
        refine u_st rfl (fun _ => rfl) ?_
        show u_P L xs m d m_X12_wardsGo 27 [(0, .ref 100), (1, .int x1)] [.ref 100] S R _
        refine u_getr rfl v_tyM rfl ?_
        refine u_st rfl (fun _ => rfl) ?_
        show u_P L xs m d m_X12_wardsGo 31 [(0, .ref 100), (1, .int x1)] [.int x1, .ref 128] S R _
        refine u_ialdE (v := S 127 x1.toInt.toNat) rfl rfl rfl (fun b31 b32 => ?_)
        have hD := hD b31 b32
        show u_P L xs m d m_X12_wardsGo 32 [(0, .ref 100), (1, .int x1)] [.int (S 127 x1.toInt.toNat)] S R _
        refine u_if_le rfl (fun h4 => ?_) (fun h4 => ?_)
        · have hD := hD.1 h4
          show u_P L xs m d m_X12_wardsGo 56 [(0, .ref 100), (1, .int x1)] [] S R _
          refine u_st rfl (fun _ => rfl) ?_
          refine u_st rfl (fun _ => rfl) ?_
          refine u_lc (b := [(0, .ref 100), (1, .int (x1 + (Int32.ofInt 1)))]) (show ([1, 0] : List Nat).Nodup by decide) (show ([0, 1] : List Nat).Nodup by decide) (fun i => match i with | 0 => rfl | 1 => rfl | _ + 2 => rfl) ?_
          exact (ih m hm) d (x1 + (Int32.ofInt 1)) S hD
        · have hD := hD.2 h4
          show u_P L xs m d m_X12_wardsGo 35 [(0, .ref 100), (1, .int x1)] [] S R _
          refine u_st rfl (fun _ => rfl) ?_
          show u_P L xs m d m_X12_wardsGo 36 [(0, .ref 100), (1, .int x1)] [.ref 100] S R _
          refine u_getr rfl v_tyM rfl ?_
          refine u_st rfl (fun _ => rfl) ?_
          refine u_st rfl (fun _ => rfl) ?_
          show u_P L xs m d m_X12_wardsGo 41 [(0, .ref 100), (1, .int x1)] [.ref 100, .int x1, .ref 129] S R _
          refine u_getr rfl v_tyM rfl ?_
          refine u_st rfl (fun _ => rfl) ?_
          show u_P L xs m d m_X12_wardsGo 45 [(0, .ref 100), (1, .int x1)] [.int x1, .ref 129, .int x1, .ref 129] S R _
          refine u_ialdE (v := S 128 x1.toInt.toNat) rfl rfl rfl (fun b51 b52 => ?_)
          have hD := hD b51 b52
          show u_P L xs m d m_X12_wardsGo 46 [(0, .ref 100), (1, .int x1)] [.int (S 128 x1.toInt.toNat), .int x1, .ref 129] S R _
          refine u_st rfl (fun _ => rfl) ?_
          refine u_st rfl (fun _ => rfl) ?_
          refine u_st rfl (fun _ => rfl) ?_
          show u_P L xs m d m_X12_wardsGo 49 [(0, .ref 100), (1, .int x1)] [.ref 100, .int ((S 128 x1.toInt.toNat) + (Int32.ofInt 1)), .int x1, .ref 129] S R _
          refine u_getr rfl v_tyM rfl ?_
          refine u_st rfl (fun _ => rfl) ?_
          show u_P L xs m d m_X12_wardsGo 53 [(0, .ref 100), (1, .int x1)] [.int x1, .ref 128, .int ((S 128 x1.toInt.toNat) + (Int32.ofInt 1)), .int x1, .ref 129] S R _
          refine u_ialdE (v := S 127 x1.toInt.toNat) rfl rfl rfl (fun b61 b62 => ?_)
          have hD := hD b61 b62
          show u_P L xs m d m_X12_wardsGo 54 [(0, .ref 100), (1, .int x1)] [.int (S 127 x1.toInt.toNat), .int ((S 128 x1.toInt.toNat) + (Int32.ofInt 1)), .int x1, .ref 129] S R _
          refine u_irem rfl (fun b7 => ?_)
          have hD := hD b7
          show u_P L xs m d m_X12_wardsGo 55 [(0, .ref 100), (1, .int x1)] [.int (((S 128 x1.toInt.toNat) + (Int32.ofInt 1)) - ((S 128 x1.toInt.toNat) + (Int32.ofInt 1)) / (S 127 x1.toInt.toNat) * (S 127 x1.toInt.toNat)), .int x1, .ref 129] S R _
          refine u_iast rfl rfl (fun b81 b82 => ?_)
          have hD := hD b81 b82
          show u_P L xs m d m_X12_wardsGo 56 [(0, .ref 100), (1, .int x1)] [] (z_s S 128 x1.toInt.toNat (((S 128 x1.toInt.toNat) + (Int32.ofInt 1)) - ((S 128 x1.toInt.toNat) + (Int32.ofInt 1)) / (S 127 x1.toInt.toNat) * (S 127 x1.toInt.toNat))) R _
          refine u_st rfl (fun _ => rfl) ?_
          refine u_st rfl (fun _ => rfl) ?_
          refine u_lc (b := [(0, .ref 100), (1, .int (x1 + (Int32.ofInt 1)))]) (show ([1, 0] : List Nat).Nodup by decide) (show ([0, 1] : List Nat).Nodup by decide) (fun i => match i with | 0 => rfl | 1 => rfl | _ + 2 => rfl) ?_
          exact (ih m hm) d (x1 + (Int32.ofInt 1)) (z_s S 128 x1.toInt.toNat (((S 128 x1.toInt.toNat) + (Int32.ofInt 1)) - ((S 128 x1.toInt.toNat) + (Int32.ofInt 1)) / (S 127 x1.toInt.toNat) * (S 127 x1.toInt.toNat))) hD
      · have hD := hD.2 h2
        show u_P L xs m d m_X12_wardsGo 16 [(0, .ref 100), (1, .int x1)] [] S R _
        refine u_st rfl (fun _ => rfl) ?_
        refine u_st rfl (fun _ => rfl) ?_
        show u_P L xs m d m_X12_wardsGo 18 [(0, .ref 100), (1, .int x1)] [.int x1, .ref 100] S R _
        refine u_cv (rest := []) rfl (by decide) mt_X12_feeds v_tyM rfl rfl rfl (Nat.le_of_ble_eq_true rfl) (Nat.le_of_ble_eq_true rfl) (Nat.le_of_ble_eq_true rfl) (fun d' => c_X12_feeds L xs m d' x1 S R) ?_
        rintro _ _ _ ⟨rfl, rfl, rfl⟩
        refine u_st rfl (fun _ => rfl) ?_
        refine u_st rfl (fun _ => rfl) ?_
        show u_P L xs m d m_X12_wardsGo 23 [(0, .ref 100), (1, .int x1)] [.int x1, .ref 100] (g_X12_feeds x1 S) R _
        refine u_cv (rest := []) rfl (by decide) mt_X12_teaches v_tyM rfl rfl rfl (Nat.le_of_ble_eq_true rfl) (Nat.le_of_ble_eq_true rfl) (Nat.le_of_ble_eq_true rfl) (fun d' => c_X12_teaches L xs m d' x1 (g_X12_feeds x1 S) R) ?_
        rintro _ _ _ ⟨rfl, rfl, rfl⟩
        refine u_st rfl (fun _ => rfl) ?_
        show u_P L xs m d m_X12_wardsGo 27 [(0, .ref 100), (1, .int x1)] [.ref 100] (g_X12_teaches x1 (g_X12_feeds x1 S)) R _
        refine u_getr rfl v_tyM rfl ?_
        refine u_st rfl (fun _ => rfl) ?_
        show u_P L xs m d m_X12_wardsGo 31 [(0, .ref 100), (1, .int x1)] [.int x1, .ref 128] (g_X12_teaches x1 (g_X12_feeds x1 S)) R _
        refine u_ialdE (v := (g_X12_teaches x1 (g_X12_feeds x1 S)) 127 x1.toInt.toNat) rfl rfl rfl (fun b91 b92 => ?_)
        have hD := hD b91 b92
        show u_P L xs m d m_X12_wardsGo 32 [(0, .ref 100), (1, .int x1)] [.int ((g_X12_teaches x1 (g_X12_feeds x1 S)) 127 x1.toInt.toNat)] (g_X12_teaches x1 (g_X12_feeds x1 S)) R _
        refine u_if_le rfl (fun h10 => ?_) (fun h10 => ?_)
        · have hD := hD.1 h10
          show u_P L xs m d m_X12_wardsGo 56 [(0, .ref 100), (1, .int x1)] [] (g_X12_teaches x1 (g_X12_feeds x1 S)) R _
          refine u_st rfl (fun _ => rfl) ?_
          refine u_st rfl (fun _ => rfl) ?_
          refine u_lc (b := [(0, .ref 100), (1, .int (x1 + (Int32.ofInt 1)))]) (show ([1, 0] : List Nat).Nodup by decide) (show ([0, 1] : List Nat).Nodup by decide) (fun i => match i with | 0 => rfl | 1 => rfl | _ + 2 => rfl) ?_
          exact (ih m hm) d (x1 + (Int32.ofInt 1)) (g_X12_teaches x1 (g_X12_feeds x1 S)) hD
        · have hD := hD.2 h10
          show u_P L xs m d m_X12_wardsGo 35 [(0, .ref 100), (1, .int x1)] [] (g_X12_teaches x1 (g_X12_feeds x1 S)) R _
          refine u_st rfl (fun _ => rfl) ?_
          show u_P L xs m d m_X12_wardsGo 36 [(0, .ref 100), (1, .int x1)] [.ref 100] (g_X12_teaches x1 (g_X12_feeds x1 S)) R _
          refine u_getr rfl v_tyM rfl ?_
          refine u_st rfl (fun _ => rfl) ?_
          refine u_st rfl (fun _ => rfl) ?_
          show u_P L xs m d m_X12_wardsGo 41 [(0, .ref 100), (1, .int x1)] [.ref 100, .int x1, .ref 129] (g_X12_teaches x1 (g_X12_feeds x1 S)) R _
          refine u_getr rfl v_tyM rfl ?_
          refine u_st rfl (fun _ => rfl) ?_
          show u_P L xs m d m_X12_wardsGo 45 [(0, .ref 100), (1, .int x1)] [.int x1, .ref 129, .int x1, .ref 129] (g_X12_teaches x1 (g_X12_feeds x1 S)) R _
          refine u_ialdE (v := (g_X12_teaches x1 (g_X12_feeds x1 S)) 128 x1.toInt.toNat) rfl rfl rfl (fun b111 b112 => ?_)
          have hD := hD b111 b112
          show u_P L xs m d m_X12_wardsGo 46 [(0, .ref 100), (1, .int x1)] [.int ((g_X12_teaches x1 (g_X12_feeds x1 S)) 128 x1.toInt.toNat), .int x1, .ref 129] (g_X12_teaches x1 (g_X12_feeds x1 S)) R _
          refine u_st rfl (fun _ => rfl) ?_
          refine u_st rfl (fun _ => rfl) ?_
          refine u_st rfl (fun _ => rfl) ?_
          show u_P L xs m d m_X12_wardsGo 49 [(0, .ref 100), (1, .int x1)] [.ref 100, .int (((g_X12_teaches x1 (g_X12_feeds x1 S)) 128 x1.toInt.toNat) + (Int32.ofInt 1)), .int x1, .ref 129] (g_X12_teaches x1 (g_X12_feeds x1 S)) R _
          refine u_getr rfl v_tyM rfl ?_
          refine u_st rfl (fun _ => rfl) ?_
          show u_P L xs m d m_X12_wardsGo 53 [(0, .ref 100), (1, .int x1)] [.int x1, .ref 128, .int (((g_X12_teaches x1 (g_X12_feeds x1 S)) 128 x1.toInt.toNat) + (Int32.ofInt 1)), .int x1, .ref 129] (g_X12_teaches x1 (g_X12_feeds x1 S)) R _
          refine u_ialdE (v := (g_X12_teaches x1 (g_X12_feeds x1 S)) 127 x1.toInt.toNat) rfl rfl rfl (fun b121 b122 => ?_)
          have hD := hD b121 b122
          show u_P L xs m d m_X12_wardsGo 54 [(0, .ref 100), (1, .int x1)] [.int ((g_X12_teaches x1 (g_X12_feeds x1 S)) 127 x1.toInt.toNat), .int (((g_X12_teaches x1 (g_X12_feeds x1 S)) 128 x1.toInt.toNat) + (Int32.ofInt 1)), .int x1, .ref 129] (g_X12_teaches x1 (g_X12_feeds x1 S)) R _
          refine u_irem rfl (fun b13 => ?_)
          have hD := hD b13
          show u_P L xs m d m_X12_wardsGo 55 [(0, .ref 100), (1, .int x1)] [.int ((((g_X12_teaches x1 (g_X12_feeds x1 S)) 128 x1.toInt.toNat) + (Int32.ofInt 1)) - (((g_X12_teaches x1 (g_X12_feeds x1 S)) 128 x1.toInt.toNat) + (Int32.ofInt 1)) / ((g_X12_teaches x1 (g_X12_feeds x1 S)) 127 x1.toInt.toNat) * ((g_X12_teaches x1 (g_X12_feeds x1 S)) 127 x1.toInt.toNat)), .int x1, .ref 129] (g_X12_teaches x1 (g_X12_feeds x1 S)) R _
          refine u_iast rfl rfl (fun b141 b142 => ?_)
          have hD := hD b141 b142
          show u_P L xs m d m_X12_wardsGo 56 [(0, .ref 100), (1, .int x1)] [] (z_s (g_X12_teaches x1 (g_X12_feeds x1 S)) 128 x1.toInt.toNat ((((g_X12_teaches x1 (g_X12_feeds x1 S)) 128 x1.toInt.toNat) + (Int32.ofInt 1)) - (((g_X12_teaches x1 (g_X12_feeds x1 S)) 128 x1.toInt.toNat) + (Int32.ofInt 1)) / ((g_X12_teaches x1 (g_X12_feeds x1 S)) 127 x1.toInt.toNat) * ((g_X12_teaches x1 (g_X12_feeds x1 S)) 127 x1.toInt.toNat))) R _
          refine u_st rfl (fun _ => rfl) ?_
          refine u_st rfl (fun _ => rfl) ?_
          refine u_lc (b := [(0, .ref 100), (1, .int (x1 + (Int32.ofInt 1)))]) (show ([1, 0] : List Nat).Nodup by decide) (show ([0, 1] : List Nat).Nodup by decide) (fun i => match i with | 0 => rfl | 1 => rfl | _ + 2 => rfl) ?_
          exact (ih m hm) d (x1 + (Int32.ofInt 1)) (z_s (g_X12_teaches x1 (g_X12_feeds x1 S)) 128 x1.toInt.toNat ((((g_X12_teaches x1 (g_X12_feeds x1 S)) 128 x1.toInt.toNat) + (Int32.ofInt 1)) - (((g_X12_teaches x1 (g_X12_feeds x1 S)) 128 x1.toInt.toNat) + (Int32.ofInt 1)) / ((g_X12_teaches x1 (g_X12_feeds x1 S)) 127 x1.toInt.toNat) * ((g_X12_teaches x1 (g_X12_feeds x1 S)) 127 x1.toInt.toNat))) hD
set_option maxRecDepth 4000 in
theorem w_X12_wardsGo (L : Nat) (xs : Nat → Int32) {R : v_Rf}  (H2 : Int32 → v_Sf → Prop) (K : v_Sf → Prop) (k2 : ∀ (x1 : Int32) (S : v_Sf), H2 x1 S → D_X12_wardsGo_2 H2 K x1 S) (n d : Nat) (S : v_Sf) (hD : D_X12_wardsGo H2 K S) : u_P L xs n d m_X12_wardsGo 0 (lv_args 0 [.ref 100]) [] S R (z_V R K) := by
  unfold D_X12_wardsGo at hD
  show u_P L xs n d m_X12_wardsGo 0 [(0, .ref 100)] [] S R _
  refine u_st rfl (fun _ => rfl) ?_
  refine u_st rfl (fun _ => rfl) ?_
  refine u_lc (b := [(0, .ref 100), (1, .int (Int32.ofInt 0))]) (show ([1, 0] : List Nat).Nodup by decide) (show ([0, 1] : List Nat).Nodup by decide) (fun i => match i with | 0 => rfl | 1 => rfl | _ + 2 => rfl) ?_
  exact (hd_X12_wardsGo L xs H2 K k2 n) d (Int32.ofInt 0) S hD
noncomputable def r_X12_wardsGo_2  : Nat → Nat → v_Sf → v_Sf
  | 0, k2, S => S
  | r + 1, k2, S => (if (f_X12_isWell (z_i k2) S) = 0 then (if (S 127 (z_i k2).toInt.toNat) ≤ 0 then r_X12_wardsGo_2 r (k2 + 1) S else r_X12_wardsGo_2 r (k2 + 1) (z_s S 128 (z_i k2).toInt.toNat (((S 128 (z_i k2).toInt.toNat) + (Int32.ofInt 1)) - ((S 128 (z_i k2).toInt.toNat) + (Int32.ofInt 1)) / (S 127 (z_i k2).toInt.toNat) * (S 127 (z_i k2).toInt.toNat)))) else (if ((g_X12_teaches (z_i k2) (g_X12_feeds (z_i k2) S)) 127 (z_i k2).toInt.toNat) ≤ 0 then r_X12_wardsGo_2 r (k2 + 1) (g_X12_teaches (z_i k2) (g_X12_feeds (z_i k2) S)) else r_X12_wardsGo_2 r (k2 + 1) (z_s (g_X12_teaches (z_i k2) (g_X12_feeds (z_i k2) S)) 128 (z_i k2).toInt.toNat ((((g_X12_teaches (z_i k2) (g_X12_feeds (z_i k2) S)) 128 (z_i k2).toInt.toNat) + (Int32.ofInt 1)) - (((g_X12_teaches (z_i k2) (g_X12_feeds (z_i k2) S)) 128 (z_i k2).toInt.toNat) + (Int32.ofInt 1)) / ((g_X12_teaches (z_i k2) (g_X12_feeds (z_i k2) S)) 127 (z_i k2).toInt.toNat) * ((g_X12_teaches (z_i k2) (g_X12_feeds (z_i k2) S)) 127 (z_i k2).toInt.toNat)))))
noncomputable def F_X12_wardsGo  (S : v_Sf) : v_Sf := r_X12_wardsGo_2 (6 - 0) 0 S
noncomputable def g_X12_wardsGo  (S : v_Sf) : v_Sf := F_X12_wardsGo  S
theorem c_X12_wardsGo (L : Nat) (xs : Nat → Int32) (n d : Nat)  (S : v_Sf) (R : v_Rf) : u_P L xs n d m_X12_wardsGo 0 (lv_args 0 [.ref 100]) [] S R (z_V R (fun S1 => g_X12_wardsGo  S = S1)) := by
  refine w_X12_wardsGo L xs  (fun y1 T => ∃ (k2 : Nat), k2 ≤ 6 ∧ z_i k2 = y1 ∧ r_X12_wardsGo_2 (6 - k2) k2 T = F_X12_wardsGo  S) (fun S1 => g_X12_wardsGo  S = S1) ?_ n d S ?_
  · rintro _ S1 ⟨k2, hkk, rfl, e⟩
    unfold D_X12_wardsGo_2
    rcases Nat.lt_or_ge k2 (6) with hk | hk
    · rw [show 6 - k2 = (6 - (k2 + 1)) + 1 by omega, r_X12_wardsGo_2] at e
      refine ⟨fun q1 => ?_, fun q1 => ?_⟩
      · exact absurd hk (Nat.not_lt.mpr (z_leB2 (B := 6) q1 (by decide) (by omega)))
      · refine ⟨fun q2 => ?_, fun q2 => ?_⟩
        · intro _ _
          refine ⟨fun q3 => ?_, fun q3 => ?_⟩
          · rw [if_pos q2, if_pos q3] at e
            exact ⟨(k2 + 1), by omega, (z_i1 k2).symm, e⟩
          · intro _ _
            intro _ _
            intro _
            intro _ _
            rw [if_pos q2, if_neg q3] at e
            exact ⟨(k2 + 1), by omega, (z_i1 k2).symm, e⟩
        · intro _ _
          refine ⟨fun q4 => ?_, fun q4 => ?_⟩
          · rw [if_neg q2, if_pos q4] at e
            exact ⟨(k2 + 1), by omega, (z_i1 k2).symm, e⟩
          · intro _ _
            intro _ _
            intro _
            intro _ _
            rw [if_neg q2, if_neg q4] at e
            exact ⟨(k2 + 1), by omega, (z_i1 k2).symm, e⟩
    · rw [show 6 - k2 = 0 by omega, r_X12_wardsGo_2] at e
      refine ⟨fun q5 => ?_, fun q5 => ?_⟩
      · exact e.symm
      · exact absurd hk (Nat.not_le.mpr (z_ltB2 (B := 6) q5 (by decide) (by omega)))
  · unfold D_X12_wardsGo
    have e : r_X12_wardsGo_2 (6 - 0) 0 S = F_X12_wardsGo  S := by rw [F_X12_wardsGo]
    exact ⟨0, by omega, rfl, e⟩
noncomputable abbrev m_X12_breaks : g_M := (g_cn 12, yX12_breaks, cX12_breaks, 3, none, g_look2 ttX12_breaks)
set_option maxRecDepth 20000 in
theorem mt_X12_breaks : g_mt 233 = some m_X12_breaks := rfl
noncomputable def D_X12_breaks_2  (H2 : Int32 → v_Sf → Prop) (K : v_Sf → Prop) (x1 : Int32) (S : v_Sf) : Prop := (((Int32.ofInt 12) ≤ x1 → K S) ∧ (¬ ((Int32.ofInt 12) ≤ x1) → (0 ≤ x1.toInt → x1.toInt < 12 → (((¬ (S 116 x1.toInt.toNat) = 0) → H2 (x1 + (Int32.ofInt 1)) (z_s (z_s (g_X12_tells (Int32.ofInt 98) (Int32.ofInt 20) (g_X12_gustStands x1 S)) 99 61 (((g_X12_tells (Int32.ofInt 98) (Int32.ofInt 20) (g_X12_gustStands x1 S)) 99 61) + (f_X12_tells (Int32.ofInt 98) (Int32.ofInt 20) (g_X12_gustStands x1 S)))) 99 71 (((g_X12_tells (Int32.ofInt 98) (Int32.ofInt 20) (g_X12_gustStands x1 S)) 99 71) + (f_X12_tells (Int32.ofInt 98) (Int32.ofInt 20) (g_X12_gustStands x1 S))))) ∧ (¬ (¬ (S 116 x1.toInt.toNat) = 0) → H2 (x1 + (Int32.ofInt 1)) S)))))
noncomputable def D_X12_breaks  (H2 : Int32 → v_Sf → Prop) (K : v_Sf → Prop) (S : v_Sf) : Prop := H2 (Int32.ofInt 0) S
set_option maxRecDepth 4000 in
theorem hd_X12_breaks (L : Nat) (xs : Nat → Int32) {R : v_Rf}  (H2 : Int32 → v_Sf → Prop) (K : v_Sf → Prop) (k2 : ∀ (x1 : Int32) (S : v_Sf), H2 x1 S → D_X12_breaks_2 H2 K x1 S) : ∀ n, (∀ (d : Nat) (x1 : Int32) (S : v_Sf), H2 x1 S → u_P L xs n d m_X12_breaks 2 [(0, .ref 100), (1, .int x1)] [] S R (z_V R K)) ∧ (∀ (d : Nat) (j2 : Int32) (x1 : Int32) (S : v_Sf), H2 x1 S → u_P L xs n d m_X12_breaks 2 [(0, .ref 100), (1, .int x1), (2, .int j2)] [] S R (z_V R K)) := by
  intro n
  induction n using Nat.strongRecOn with
  | ind n ih =>
    refine ⟨?_, ?_⟩
    · intro d x1 S hD
      have hD := k2 x1 S hD
      unfold D_X12_breaks_2 at hD
      show u_P L xs n d m_X12_breaks 2 [(0, .ref 100), (1, .int x1)] [] S R _
      refine u_st1 rfl (fun _ => rfl) (fun m hm => ?_)
      refine u_st rfl (fun _ => rfl) ?_
      show u_P L xs m d m_X12_breaks 5 [(0, .ref 100), (1, .int x1)] [.int (Int32.ofInt 12), .int x1] S R _
      refine u_ic_ge rfl (fun h1 => ?_) (fun h1 => ?_)
      · have hD := hD.1 h1
        show u_P L xs m d m_X12_breaks 60 [(0, .ref 100), (1, .int x1)] [] S R _
        exact u_ret rfl rfl ⟨rfl, rfl, hD⟩
      · have hD := hD.2 h1
        show u_P L xs m d m_X12_breaks 8 [(0, .ref 100), (1, .int x1)] [] S R _
        refine u_st rfl (fun _ => rfl) ?_
        show u_P L xs m d m_X12_breaks 9 [(0, .ref 100), (1, .int x1)] [.ref 100] S R _
        refine u_getr rfl v_tyM rfl ?_
        refine u_st rfl (fun _ => rfl) ?_
        show u_P L xs m d m_X12_breaks 13 [(0, .ref 100), (1, .int x1)] [.int x1, .ref 117] S R _
        refine u_baldE (v := S 116 x1.toInt.toNat) rfl rfl (by decide) rfl (fun b21 b22 => ?_)
        have hD := hD b21 b22
        show u_P L xs m d m_X12_breaks 14 [(0, .ref 100), (1, .int x1)] [.int (S 116 x1.toInt.toNat)] S R _
        refine u_if_ne rfl (fun h3 => ?_) (fun h3 => ?_)
        · have hD := hD.1 h3
          show u_P L xs m d m_X12_breaks 20 [(0, .ref 100), (1, .int x1)] [] S R _
          refine u_st rfl (fun _ => rfl) ?_
          refine u_st rfl (fun _ => rfl) ?_
          show u_P L xs m d m_X12_breaks 22 [(0, .ref 100), (1, .int x1)] [.int x1, .ref 100] S R _
          refine u_cv (rest := []) rfl (by decide) mt_X12_gustStands v_tyM rfl rfl rfl (Nat.le_of_ble_eq_true rfl) (Nat.le_of_ble_eq_true rfl) (Nat.le_of_ble_eq_true rfl) (fun d' => c_X12_gustStands L xs m d' x1 S R) ?_
          rintro _ _ _ ⟨rfl, rfl, rfl⟩
          refine u_st rfl (fun _ => rfl) ?_
          refine u_st rfl (fun _ => rfl) ?_
          refine u_st rfl (fun _ => rfl) ?_
          show u_P L xs m d m_X12_breaks 30 [(0, .ref 100), (1, .int x1)] [.int (Int32.ofInt 20), .int (Int32.ofInt 98), .ref 100] (g_X12_gustStands x1 S) R _
          refine u_cv (rest := []) rfl (by decide) mt_X12_tells v_tyM rfl rfl rfl (Nat.le_of_ble_eq_true rfl) (Nat.le_of_ble_eq_true rfl) (Nat.le_of_ble_eq_true rfl) (fun d' => c_X12_tells L xs m d' (Int32.ofInt 98) (Int32.ofInt 20) (g_X12_gustStands x1 S) R) ?_
          rintro _ _ _ ⟨_, rfl, rfl, rfl, rfl⟩
          refine u_st rfl (fun _ => rfl) ?_
          refine u_st rfl (fun _ => rfl) ?_
          refine u_st rfl (fun _ => rfl) ?_
          show u_P L xs m d m_X12_breaks 36 [(2, .int (f_X12_tells (Int32.ofInt 98) (Int32.ofInt 20) (g_X12_gustStands x1 S))), (0, .ref 100), (1, .int x1)] [.ref 100, .ref 100] (g_X12_tells (Int32.ofInt 98) (Int32.ofInt 20) (g_X12_gustStands x1 S)) R _
          refine u_getE (v := (g_X12_tells (Int32.ofInt 98) (Int32.ofInt 20) (g_X12_gustStands x1 S)) 99 61) rfl v_tyM rfl rfl ?_
          refine u_st rfl (fun _ => rfl) ?_
          refine u_st rfl (fun _ => rfl) ?_
          show u_P L xs m d m_X12_breaks 41 [(2, .int (f_X12_tells (Int32.ofInt 98) (Int32.ofInt 20) (g_X12_gustStands x1 S))), (0, .ref 100), (1, .int x1)] [.int (((g_X12_tells (Int32.ofInt 98) (Int32.ofInt 20) (g_X12_gustStands x1 S)) 99 61) + (f_X12_tells (Int32.ofInt 98) (Int32.ofInt 20) (g_X12_gustStands x1 S))), .ref 100] (g_X12_tells (Int32.ofInt 98) (Int32.ofInt 20) (g_X12_gustStands x1 S)) R _
          refine u_put rfl v_tyM rfl ?_
          refine u_st rfl (fun _ => rfl) ?_
          refine u_st rfl (fun _ => rfl) ?_
          show u_P L xs m d m_X12_breaks 46 [(2, .int (f_X12_tells (Int32.ofInt 98) (Int32.ofInt 20) (g_X12_gustStands x1 S))), (0, .ref 100), (1, .int x1)] [.ref 100, .ref 100] (z_s (g_X12_tells (Int32.ofInt 98) (Int32.ofInt 20) (g_X12_gustStands x1 S)) 99 61 (((g_X12_tells (Int32.ofInt 98) (Int32.ofInt 20) (g_X12_gustStands x1 S)) 99 61) + (f_X12_tells (Int32.ofInt 98) (Int32.ofInt 20) (g_X12_gustStands x1 S)))) R _
          refine u_getE (v := (g_X12_tells (Int32.ofInt 98) (Int32.ofInt 20) (g_X12_gustStands x1 S)) 99 71) rfl v_tyM rfl (z_sn (fun h => absurd h.2 (by decide))) ?_
          refine u_st rfl (fun _ => rfl) ?_
          refine u_st rfl (fun _ => rfl) ?_
          show u_P L xs m d m_X12_breaks 51 [(2, .int (f_X12_tells (Int32.ofInt 98) (Int32.ofInt 20) (g_X12_gustStands x1 S))), (0, .ref 100), (1, .int x1)] [.int (((g_X12_tells (Int32.ofInt 98) (Int32.ofInt 20) (g_X12_gustStands x1 S)) 99 71) + (f_X12_tells (Int32.ofInt 98) (Int32.ofInt 20) (g_X12_gustStands x1 S))), .ref 100] (z_s (g_X12_tells (Int32.ofInt 98) (Int32.ofInt 20) (g_X12_gustStands x1 S)) 99 61 (((g_X12_tells (Int32.ofInt 98) (Int32.ofInt 20) (g_X12_gustStands x1 S)) 99 61) + (f_X12_tells (Int32.ofInt 98) (Int32.ofInt 20) (g_X12_gustStands x1 S)))) R _
          refine u_put rfl v_tyM rfl ?_
          refine u_st rfl (fun _ => rfl) ?_
          refine u_st rfl (fun _ => rfl) ?_
          refine u_lc (b := [(0, .ref 100), (1, .int (x1 + (Int32.ofInt 1))), (2, .int (f_X12_tells (Int32.ofInt 98) (Int32.ofInt 20) (g_X12_gustStands x1 S)))]) (show ([1, 2, 0] : List Nat).Nodup by decide) (show ([0, 1, 2] : List Nat).Nodup by decide) (fun i => match i with | 0 => rfl | 1 => rfl | 2 => rfl | _ + 3 => rfl) ?_
          exact (ih m hm).2 d (f_X12_tells (Int32.ofInt 98) (Int32.ofInt 20) (g_X12_gustStands x1 S)) (x1 + (Int32.ofInt 1)) (z_s (z_s (g_X12_tells (Int32.ofInt 98) (Int32.ofInt 20) (g_X12_gustStands x1 S)) 99 61 (((g_X12_tells (Int32.ofInt 98) (Int32.ofInt 20) (g_X12_gustStands x1 S)) 99 61) + (f_X12_tells (Int32.ofInt 98) (Int32.ofInt 20) (g_X12_gustStands x1 S)))) 99 71 (((g_X12_tells (Int32.ofInt 98) (Int32.ofInt 20) (g_X12_gustStands x1 S)) 99 71) + (f_X12_tells (Int32.ofInt 98) (Int32.ofInt 20) (g_X12_gustStands x1 S)))) hD
        · have hD := hD.2 h3
          show u_P L xs m d m_X12_breaks 17 [(0, .ref 100), (1, .int x1)] [] S R _
          refine u_st rfl (fun _ => rfl) ?_
          refine u_st rfl (fun _ => rfl) ?_
          refine u_st rfl (fun _ => rfl) ?_
          refine u_lc (b := [(0, .ref 100), (1, .int (x1 + (Int32.ofInt 1)))]) (show ([1, 0] : List Nat).Nodup by decide) (show ([0, 1] : List Nat).Nodup by decide) (fun i => match i with | 0 => rfl | 1 => rfl | _ + 2 => rfl) ?_
          exact (ih m hm).1 d (x1 + (Int32.ofInt 1)) S hD
    · intro d j2 x1 S hD
      have hD := k2 x1 S hD
      unfold D_X12_breaks_2 at hD
      show u_P L xs n d m_X12_breaks 2 [(0, .ref 100), (1, .int x1), (2, .int j2)] [] S R _
      refine u_st1 rfl (fun _ => rfl) (fun m hm => ?_)
      refine u_st rfl (fun _ => rfl) ?_
      show u_P L xs m d m_X12_breaks 5 [(0, .ref 100), (1, .int x1), (2, .int j2)] [.int (Int32.ofInt 12), .int x1] S R _
      refine u_ic_ge rfl (fun h1 => ?_) (fun h1 => ?_)
      · have hD := hD.1 h1
        show u_P L xs m d m_X12_breaks 60 [(0, .ref 100), (1, .int x1), (2, .int j2)] [] S R _
        exact u_ret rfl rfl ⟨rfl, rfl, hD⟩
      · have hD := hD.2 h1
        show u_P L xs m d m_X12_breaks 8 [(0, .ref 100), (1, .int x1), (2, .int j2)] [] S R _
        refine u_st rfl (fun _ => rfl) ?_
        show u_P L xs m d m_X12_breaks 9 [(0, .ref 100), (1, .int x1), (2, .int j2)] [.ref 100] S R _
        refine u_getr rfl v_tyM rfl ?_
        refine u_st rfl (fun _ => rfl) ?_
        show u_P L xs m d m_X12_breaks 13 [(0, .ref 100), (1, .int x1), (2, .int j2)] [.int x1, .ref 117] S R _
        refine u_baldE (v := S 116 x1.toInt.toNat) rfl rfl (by decide) rfl (fun b21 b22 => ?_)
        have hD := hD b21 b22
        show u_P L xs m d m_X12_breaks 14 [(0, .ref 100), (1, .int x1), (2, .int j2)] [.int (S 116 x1.toInt.toNat)] S R _
        refine u_if_ne rfl (fun h3 => ?_) (fun h3 => ?_)
        · have hD := hD.1 h3
          show u_P L xs m d m_X12_breaks 20 [(0, .ref 100), (1, .int x1), (2, .int j2)] [] S R _
          refine u_st rfl (fun _ => rfl) ?_
          refine u_st rfl (fun _ => rfl) ?_
          show u_P L xs m d m_X12_breaks 22 [(0, .ref 100), (1, .int x1), (2, .int j2)] [.int x1, .ref 100] S R _
          refine u_cv (rest := []) rfl (by decide) mt_X12_gustStands v_tyM rfl rfl rfl (Nat.le_of_ble_eq_true rfl) (Nat.le_of_ble_eq_true rfl) (Nat.le_of_ble_eq_true rfl) (fun d' => c_X12_gustStands L xs m d' x1 S R) ?_
          rintro _ _ _ ⟨rfl, rfl, rfl⟩
          refine u_st rfl (fun _ => rfl) ?_
          refine u_st rfl (fun _ => rfl) ?_
          refine u_st rfl (fun _ => rfl) ?_
          show u_P L xs m d m_X12_breaks 30 [(0, .ref 100), (1, .int x1), (2, .int j2)] [.int (Int32.ofInt 20), .int (Int32.ofInt 98), .ref 100] (g_X12_gustStands x1 S) R _
          refine u_cv (rest := []) rfl (by decide) mt_X12_tells v_tyM rfl rfl rfl (Nat.le_of_ble_eq_true rfl) (Nat.le_of_ble_eq_true rfl) (Nat.le_of_ble_eq_true rfl) (fun d' => c_X12_tells L xs m d' (Int32.ofInt 98) (Int32.ofInt 20) (g_X12_gustStands x1 S) R) ?_
          rintro _ _ _ ⟨_, rfl, rfl, rfl, rfl⟩
          refine u_st rfl (fun _ => rfl) ?_
          refine u_st rfl (fun _ => rfl) ?_
          refine u_st rfl (fun _ => rfl) ?_
          show u_P L xs m d m_X12_breaks 36 [(2, .int (f_X12_tells (Int32.ofInt 98) (Int32.ofInt 20) (g_X12_gustStands x1 S))), (0, .ref 100), (1, .int x1)] [.ref 100, .ref 100] (g_X12_tells (Int32.ofInt 98) (Int32.ofInt 20) (g_X12_gustStands x1 S)) R _
          refine u_getE (v := (g_X12_tells (Int32.ofInt 98) (Int32.ofInt 20) (g_X12_gustStands x1 S)) 99 61) rfl v_tyM rfl rfl ?_
          refine u_st rfl (fun _ => rfl) ?_
          refine u_st rfl (fun _ => rfl) ?_
          show u_P L xs m d m_X12_breaks 41 [(2, .int (f_X12_tells (Int32.ofInt 98) (Int32.ofInt 20) (g_X12_gustStands x1 S))), (0, .ref 100), (1, .int x1)] [.int (((g_X12_tells (Int32.ofInt 98) (Int32.ofInt 20) (g_X12_gustStands x1 S)) 99 61) + (f_X12_tells (Int32.ofInt 98) (Int32.ofInt 20) (g_X12_gustStands x1 S))), .ref 100] (g_X12_tells (Int32.ofInt 98) (Int32.ofInt 20) (g_X12_gustStands x1 S)) R _
          refine u_put rfl v_tyM rfl ?_
          refine u_st rfl (fun _ => rfl) ?_
          refine u_st rfl (fun _ => rfl) ?_
          show u_P L xs m d m_X12_breaks 46 [(2, .int (f_X12_tells (Int32.ofInt 98) (Int32.ofInt 20) (g_X12_gustStands x1 S))), (0, .ref 100), (1, .int x1)] [.ref 100, .ref 100] (z_s (g_X12_tells (Int32.ofInt 98) (Int32.ofInt 20) (g_X12_gustStands x1 S)) 99 61 (((g_X12_tells (Int32.ofInt 98) (Int32.ofInt 20) (g_X12_gustStands x1 S)) 99 61) + (f_X12_tells (Int32.ofInt 98) (Int32.ofInt 20) (g_X12_gustStands x1 S)))) R _
          refine u_getE (v := (g_X12_tells (Int32.ofInt 98) (Int32.ofInt 20) (g_X12_gustStands x1 S)) 99 71) rfl v_tyM rfl (z_sn (fun h => absurd h.2 (by decide))) ?_
          refine u_st rfl (fun _ => rfl) ?_
          refine u_st rfl (fun _ => rfl) ?_
          show u_P L xs m d m_X12_breaks 51 [(2, .int (f_X12_tells (Int32.ofInt 98) (Int32.ofInt 20) (g_X12_gustStands x1 S))), (0, .ref 100), (1, .int x1)] [.int (((g_X12_tells (Int32.ofInt 98) (Int32.ofInt 20) (g_X12_gustStands x1 S)) 99 71) + (f_X12_tells (Int32.ofInt 98) (Int32.ofInt 20) (g_X12_gustStands x1 S))), .ref 100] (z_s (g_X12_tells (Int32.ofInt 98) (Int32.ofInt 20) (g_X12_gustStands x1 S)) 99 61 (((g_X12_tells (Int32.ofInt 98) (Int32.ofInt 20) (g_X12_gustStands x1 S)) 99 61) + (f_X12_tells (Int32.ofInt 98) (Int32.ofInt 20) (g_X12_gustStands x1 S)))) R _
          refine u_put rfl v_tyM rfl ?_
          refine u_st rfl (fun _ => rfl) ?_
          refine u_st rfl (fun _ => rfl) ?_
          refine u_lc (b := [(0, .ref 100), (1, .int (x1 + (Int32.ofInt 1))), (2, .int (f_X12_tells (Int32.ofInt 98) (Int32.ofInt 20) (g_X12_gustStands x1 S)))]) (show ([1, 2, 0] : List Nat).Nodup by decide) (show ([0, 1, 2] : List Nat).Nodup by decide) (fun i => match i with | 0 => rfl | 1 => rfl | 2 => rfl | _ + 3 => rfl) ?_
          exact (ih m hm).2 d (f_X12_tells (Int32.ofInt 98) (Int32.ofInt 20) (g_X12_gustStands x1 S)) (x1 + (Int32.ofInt 1)) (z_s (z_s (g_X12_tells (Int32.ofInt 98) (Int32.ofInt 20) (g_X12_gustStands x1 S)) 99 61 (((g_X12_tells (Int32.ofInt 98) (Int32.ofInt 20) (g_X12_gustStands x1 S)) 99 61) + (f_X12_tells (Int32.ofInt 98) (Int32.ofInt 20) (g_X12_gustStands x1 S)))) 99 71 (((g_X12_tells (Int32.ofInt 98) (Int32.ofInt 20) (g_X12_gustStands x1 S)) 99 71) + (f_X12_tells (Int32.ofInt 98) (Int32.ofInt 20) (g_X12_gustStands x1 S)))) hD
        · have hD := hD.2 h3
          show u_P L xs m d m_X12_breaks 17 [(0, .ref 100), (1, .int x1), (2, .int j2)] [] S R _
          refine u_st rfl (fun _ => rfl) ?_
          refine u_st rfl (fun _ => rfl) ?_
          refine u_st rfl (fun _ => rfl) ?_
          refine u_lc (b := [(0, .ref 100), (1, .int (x1 + (Int32.ofInt 1))), (2, .int j2)]) (show ([1, 0, 2] : List Nat).Nodup by decide) (show ([0, 1, 2] : List Nat).Nodup by decide) (fun i => match i with | 0 => rfl | 1 => rfl | 2 => rfl | _ + 3 => rfl) ?_
          exact (ih m hm).2 d j2 (x1 + (Int32.ofInt 1)) S hD
set_option maxRecDepth 4000 in
theorem w_X12_breaks (L : Nat) (xs : Nat → Int32) {R : v_Rf}  (H2 : Int32 → v_Sf → Prop) (K : v_Sf → Prop) (k2 : ∀ (x1 : Int32) (S : v_Sf), H2 x1 S → D_X12_breaks_2 H2 K x1 S) (n d : Nat) (S : v_Sf) (hD : D_X12_breaks H2 K S) : u_P L xs n d m_X12_breaks 0 (lv_args 0 [.ref 100]) [] S R (z_V R K) := by
  unfold D_X12_breaks at hD
  show u_P L xs n d m_X12_breaks 0 [(0, .ref 100)] [] S R _
  refine u_st rfl (fun _ => rfl) ?_
  refine u_st rfl (fun _ => rfl) ?_
  refine u_lc (b := [(0, .ref 100), (1, .int (Int32.ofInt 0))]) (show ([1, 0] : List Nat).Nodup by decide) (show ([0, 1] : List Nat).Nodup by decide) (fun i => match i with | 0 => rfl | 1 => rfl | _ + 2 => rfl) ?_
  exact (hd_X12_breaks L xs H2 K k2 n).1 d (Int32.ofInt 0) S hD
noncomputable def r_X12_breaks_2  : Nat → Nat → v_Sf → v_Sf
  | 0, k2, S => S
  | r + 1, k2, S => (if ¬ (S 116 (z_i k2).toInt.toNat) = 0 then r_X12_breaks_2 r (k2 + 1) (z_s (z_s (g_X12_tells (Int32.ofInt 98) (Int32.ofInt 20) (g_X12_gustStands (z_i k2) S)) 99 61 (((g_X12_tells (Int32.ofInt 98) (Int32.ofInt 20) (g_X12_gustStands (z_i k2) S)) 99 61) + (f_X12_tells (Int32.ofInt 98) (Int32.ofInt 20) (g_X12_gustStands (z_i k2) S)))) 99 71 (((g_X12_tells (Int32.ofInt 98) (Int32.ofInt 20) (g_X12_gustStands (z_i k2) S)) 99 71) + (f_X12_tells (Int32.ofInt 98) (Int32.ofInt 20) (g_X12_gustStands (z_i k2) S)))) else r_X12_breaks_2 r (k2 + 1) S)
noncomputable def F_X12_breaks  (S : v_Sf) : v_Sf := r_X12_breaks_2 (12 - 0) 0 S
noncomputable def g_X12_breaks  (S : v_Sf) : v_Sf := F_X12_breaks  S
theorem c_X12_breaks (L : Nat) (xs : Nat → Int32) (n d : Nat)  (S : v_Sf) (R : v_Rf) : u_P L xs n d m_X12_breaks 0 (lv_args 0 [.ref 100]) [] S R (z_V R (fun S1 => g_X12_breaks  S = S1)) := by
  refine w_X12_breaks L xs  (fun y1 T => ∃ (k2 : Nat), k2 ≤ 12 ∧ z_i k2 = y1 ∧ r_X12_breaks_2 (12 - k2) k2 T = F_X12_breaks  S) (fun S1 => g_X12_breaks  S = S1) ?_ n d S ?_
  · rintro _ S1 ⟨k2, hkk, rfl, e⟩
    unfold D_X12_breaks_2
    rcases Nat.lt_or_ge k2 (12) with hk | hk
    · rw [show 12 - k2 = (12 - (k2 + 1)) + 1 by omega, r_X12_breaks_2] at e
      refine ⟨fun q1 => ?_, fun q1 => ?_⟩
      · exact absurd hk (Nat.not_lt.mpr (z_leB2 (B := 12) q1 (by decide) (by omega)))
      · intro _ _
        refine ⟨fun q2 => ?_, fun q2 => ?_⟩
        · rw [if_pos q2] at e
          exact ⟨(k2 + 1), by omega, (z_i1 k2).symm, e⟩
        · rw [if_neg q2] at e
          exact ⟨(k2 + 1), by omega, (z_i1 k2).symm, e⟩
    · rw [show 12 - k2 = 0 by omega, r_X12_breaks_2] at e
      refine ⟨fun q3 => ?_, fun q3 => ?_⟩
      · exact e.symm
      · exact absurd hk (Nat.not_le.mpr (z_ltB2 (B := 12) q3 (by decide) (by omega)))
  · unfold D_X12_breaks
    have e : r_X12_breaks_2 (12 - 0) 0 S = F_X12_breaks  S := by rw [F_X12_breaks]
    exact ⟨0, by omega, rfl, e⟩
noncomputable abbrev m_X12_whistle : g_M := (g_cn 12, yX12_whistle, cX12_whistle, 3, none, g_look2 ttX12_whistle)
set_option maxRecDepth 20000 in
theorem mt_X12_whistle : g_mt 234 = some m_X12_whistle := rfl
noncomputable def D_X12_whistle_2  (H2 : Int32 → v_Sf → Prop) (H12 : Int32 → Int32 → v_Sf → Prop) (K : v_Sf → Prop) (x1 : Int32) (S : v_Sf) : Prop := (((Int32.ofInt 12) ≤ x1 → K S) ∧ (¬ ((Int32.ofInt 12) ≤ x1) → H12 x1 (x1 + (Int32.ofInt 1)) S))
noncomputable def D_X12_whistle_12  (H2 : Int32 → v_Sf → Prop) (H12 : Int32 → Int32 → v_Sf → Prop) (K : v_Sf → Prop) (x1 : Int32) (x2 : Int32) (S : v_Sf) : Prop := (((Int32.ofInt 12) ≤ x2 → H2 (x1 + (Int32.ofInt 1)) S) ∧ (¬ ((Int32.ofInt 12) ≤ x2) → (0 ≤ x1.toInt → x1.toInt < 12 → (((S 116 x1.toInt.toNat) = 0 → H12 x1 (x2 + (Int32.ofInt 1)) S) ∧ (¬ ((S 116 x1.toInt.toNat) = 0) → (0 ≤ x2.toInt → x2.toInt < 12 → (((S 116 x2.toInt.toNat) = 0 → H12 x1 (x2 + (Int32.ofInt 1)) S) ∧ (¬ ((S 116 x2.toInt.toNat) = 0) → (0 ≤ x1.toInt → x1.toInt < 12 → (0 ≤ x2.toInt → x2.toInt < 12 → (((¬ (S 120 x1.toInt.toNat) = (S 120 x2.toInt.toNat)) → H12 x1 (x2 + (Int32.ofInt 1)) S) ∧ (¬ (¬ (S 120 x1.toInt.toNat) = (S 120 x2.toInt.toNat)) → (((¬ (f_X12_doQuarrel x1 x2 S) = 0) → (0 ≤ x1.toInt → x1.toInt < 12 → (0 ≤ x1.toInt → x1.toInt < 12 → (0 ≤ x2.toInt → x2.toInt < 12 → (0 ≤ x2.toInt → x2.toInt < 12 → H12 x1 (x2 + (Int32.ofInt 1)) (z_s (z_s (z_s (z_s (g_X12_doQuarrel x1 x2 S) 99 62 (((g_X12_doQuarrel x1 x2 S) 99 62) + (Int32.ofInt 1))) 99 72 (((g_X12_doQuarrel x1 x2 S) 99 72) + (Int32.ofInt 1))) 119 x1.toInt.toNat (f_X12_held (((g_X12_doQuarrel x1 x2 S) 119 x1.toInt.toNat) + (Int32.ofInt 1)) (Int32.ofInt 9))) 119 x2.toInt.toNat (f_X12_held (((z_s (z_s (z_s (g_X12_doQuarrel x1 x2 S) 99 62 (((g_X12_doQuarrel x1 x2 S) 99 62) + (Int32.ofInt 1))) 99 72 (((g_X12_doQuarrel x1 x2 S) 99 72) + (Int32.ofInt 1))) 119 x1.toInt.toNat (f_X12_held (((g_X12_doQuarrel x1 x2 S) 119 x1.toInt.toNat) + (Int32.ofInt 1)) (Int32.ofInt 9))) 119 x2.toInt.toNat) + (Int32.ofInt 1)) (Int32.ofInt 9)))))))) ∧ (¬ (¬ (f_X12_doQuarrel x1 x2 S) = 0) → H12 x1 (x2 + (Int32.ofInt 1)) (g_X12_doQuarrel x1 x2 S)))))))))))))))
noncomputable def D_X12_whistle  (H2 : Int32 → v_Sf → Prop) (H12 : Int32 → Int32 → v_Sf → Prop) (K : v_Sf → Prop) (S : v_Sf) : Prop := H2 (Int32.ofInt 0) S
set_option maxRecDepth 4000 in
theorem hd_X12_whistle (L : Nat) (xs : Nat → Int32) {R : v_Rf}  (H2 : Int32 → v_Sf → Prop) (H12 : Int32 → Int32 → v_Sf → Prop) (K : v_Sf → Prop) (k2 : ∀ (x1 : Int32) (S : v_Sf), H2 x1 S → D_X12_whistle_2 H2 H12 K x1 S) (k12 : ∀ (x1 : Int32) (x2 : Int32) (S : v_Sf), H12 x1 x2 S → D_X12_whistle_12 H2 H12 K x1 x2 S) : ∀ n, (∀ (d : Nat) (x1 : Int32) (S : v_Sf), H2 x1 S → u_P L xs n d m_X12_whistle 2 [(0, .ref 100), (1, .int x1)] [] S R (z_V R K)) ∧ (∀ (d : Nat) (j2 : Int32) (x1 : Int32) (S : v_Sf), H2 x1 S → u_P L xs n d m_X12_whistle 2 [(0, .ref 100), (1, .int x1), (2, .int j2)] [] S R (z_V R K)) ∧ (∀ (d : Nat) (x1 : Int32) (x2 : Int32) (S : v_Sf), H12 x1 x2 S → u_P L xs n d m_X12_whistle 12 [(0, .ref 100), (1, .int x1), (2, .int x2)] [] S R (z_V R K)) := by
  intro n
  induction n using Nat.strongRecOn with
  | ind n ih =>
    refine ⟨?_, ?_, ?_⟩
    · intro d x1 S hD
      have hD := k2 x1 S hD
      unfold D_X12_whistle_2 at hD
      show u_P L xs n d m_X12_whistle 2 [(0, .ref 100), (1, .int x1)] [] S R _
      refine u_st1 rfl (fun _ => rfl) (fun m hm => ?_)
      refine u_st rfl (fun _ => rfl) ?_
      show u_P L xs m d m_X12_whistle 5 [(0, .ref 100), (1, .int x1)] [.int (Int32.ofInt 12), .int x1] S R _
      refine u_ic_ge rfl (fun h1 => ?_) (fun h1 => ?_)
      · have hD := hD.1 h1
        show u_P L xs m d m_X12_whistle 133 [(0, .ref 100), (1, .int x1)] [] S R _
        exact u_ret rfl rfl ⟨rfl, rfl, hD⟩
      · have hD := hD.2 h1
        show u_P L xs m d m_X12_whistle 8 [(0, .ref 100), (1, .int x1)] [] S R _
        refine u_st rfl (fun _ => rfl) ?_
        refine u_st rfl (fun _ => rfl) ?_
        refine u_st rfl (fun _ => rfl) ?_
        refine u_st rfl (fun _ => rfl) ?_
        refine u_lc (b := [(0, .ref 100), (1, .int x1), (2, .int (x1 + (Int32.ofInt 1)))]) (show ([2, 0, 1] : List Nat).Nodup by decide) (show ([0, 1, 2] : List Nat).Nodup by decide) (fun i => match i with | 0 => rfl | 1 => rfl | 2 => rfl | _ + 3 => rfl) ?_
        exact (ih m hm).2.2 d x1 (x1 + (Int32.ofInt 1)) S hD
    · intro d j2 x1 S hD
      have hD := k2 x1 S hD
      unfold D_X12_whistle_2 at hD
      show u_P L xs n d m_X12_whistle 2 [(0, .ref 100), (1, .int x1), (2, .int j2)] [] S R _
      refine u_st1 rfl (fun _ => rfl) (fun m hm => ?_)
      refine u_st rfl (fun _ => rfl) ?_
      show u_P L xs m d m_X12_whistle 5 [(0, .ref 100), (1, .int x1), (2, .int j2)] [.int (Int32.ofInt 12), .int x1] S R _
      refine u_ic_ge rfl (fun h1 => ?_) (fun h1 => ?_)
      · have hD := hD.1 h1
        show u_P L xs m d m_X12_whistle 133 [(0, .ref 100), (1, .int x1), (2, .int j2)] [] S R _
        exact u_ret rfl rfl ⟨rfl, rfl, hD⟩
      · have hD := hD.2 h1
        show u_P L xs m d m_X12_whistle 8 [(0, .ref 100), (1, .int x1), (2, .int j2)] [] S R _
        refine u_st rfl (fun _ => rfl) ?_
        refine u_st rfl (fun _ => rfl) ?_
        refine u_st rfl (fun _ => rfl) ?_
        refine u_st rfl (fun _ => rfl) ?_
        refine u_lc (b := [(0, .ref 100), (1, .int x1), (2, .int (x1 + (Int32.ofInt 1)))]) (show ([2, 0, 1] : List Nat).Nodup by decide) (show ([0, 1, 2] : List Nat).Nodup by decide) (fun i => match i with | 0 => rfl | 1 => rfl | 2 => rfl | _ + 3 => rfl) ?_
        exact (ih m hm).2.2 d x1 (x1 + (Int32.ofInt 1)) S hD
    · intro d x1 x2 S hD
      have hD := k12 x1 x2 S hD
      unfold D_X12_whistle_12 at hD
      show u_P L xs n d m_X12_whistle 12 [(0, .ref 100), (1, .int x1), (2, .int x2)] [] S R _
      refine u_st1 rfl (fun _ => rfl) (fun m hm => ?_)
      refine u_st rfl (fun _ => rfl) ?_
      show u_P L xs m d m_X12_whistle 15 [(0, .ref 100), (1, .int x1), (2, .int x2)] [.int (Int32.ofInt 12), .int x2] S R _
      refine u_ic_ge rfl (fun h1 => ?_) (fun h1 => ?_)
      · have hD := hD.1 h1
        show u_P L xs m d m_X12_whistle 127 [(0, .ref 100), (1, .int x1), (2, .int x2)] [] S R _
        refine u_st rfl (fun _ => rfl) ?_
        refine u_st rfl (fun _ => rfl) ?_
        refine u_lc (b := [(0, .ref 100), (1, .int (x1 + (Int32.ofInt 1))), (2, .int x2)]) (show ([1, 0, 2] : List Nat).Nodup by decide) (show ([0, 1, 2] : List Nat).Nodup by decide) (fun i => match i with | 0 => rfl | 1 => rfl | 2 => rfl | _ + 3 => rfl) ?_
        exact (ih m hm).2.1 d x2 (x1 + (Int32.ofInt 1)) S hD
      · have hD := hD.2 h1
        show u_P L xs m d m_X12_whistle 18 [(0, .ref 100), (1, .int x1), (2, .int x2)] [] S R _
        refine u_st rfl (fun _ => rfl) ?_
        show u_P L xs m d m_X12_whistle 19 [(0, .ref 100), (1, .int x1), (2, .int x2)] [.ref 100] S R _
        refine u_getr rfl v_tyM rfl ?_
        refine u_st rfl (fun _ => rfl) ?_
        show u_P L xs m d m_X12_whistle 23 [(0, .ref 100), (1, .int x1), (2, .int x2)] [.int x1, .ref 117] S R _
        refine u_baldE (v := S 116 x1.toInt.toNat) rfl rfl (by decide) rfl (fun b21 b22 => ?_)
        have hD := hD b21 b22
        show u_P L xs m d m_X12_whistle 24 [(0, .ref 100), (1, .int x1), (2, .int x2)] [.int (S 116 x1.toInt.toNat)] S R _
        refine u_if_eq rfl (fun h3 => ?_) (fun h3 => ?_)
        · have hD := hD.1 h3
          show u_P L xs m d m_X12_whistle 121 [(0, .ref 100), (1, .int x1), (2, .int x2)] [] S R _
          refine u_st rfl (fun _ => rfl) ?_
          refine u_st rfl (fun _ => rfl) ?_
          refine u_lc (b := [(0, .ref 100), (1, .int x1), (2, .int (x2 + (Int32.ofInt 1)))]) (show ([2, 0, 1] : List Nat).Nodup by decide) (show ([0, 1, 2] : List Nat).Nodup by decide) (fun i => match i with | 0 => rfl | 1 => rfl | 2 => rfl | _ + 3 => rfl) ?_
          exact (ih m hm).2.2 d x1 (x2 + (Int32.ofInt 1)) S hD
        · have hD := hD.2 h3
          show u_P L xs m d m_X12_whistle 27 [(0, .ref 100), (1, .int x1), (2, .int x2)] [] S R _
          refine u_st rfl (fun _ => rfl) ?_
          show u_P L xs m d m_X12_whistle 28 [(0, .ref 100), (1, .int x1), (2, .int x2)] [.ref 100] S R _
          refine u_getr rfl v_tyM rfl ?_
          refine u_st rfl (fun _ => rfl) ?_
          show u_P L xs m d m_X12_whistle 32 [(0, .ref 100), (1, .int x1), (2, .int x2)] [.int x2, .ref 117] S R _
          refine u_baldE (v := S 116 x2.toInt.toNat) rfl rfl (by decide) rfl (fun b41 b42 => ?_)
          have hD := hD b41 b42
          show u_P L xs m d m_X12_whistle 33 [(0, .ref 100), (1, .int x1), (2, .int x2)] [.int (S 116 x2.toInt.toNat)] S R _
          refine u_if_eq rfl (fun h5 => ?_) (fun h5 => ?_)
          · have hD := hD.1 h5
            show u_P L xs m d m_X12_whistle 121 [(0, .ref 100), (1, .int x1), (2, .int x2)] [] S R _
            refine u_st rfl (fun _ => rfl) ?_
            refine u_st rfl (fun _ => rfl) ?_
            refine u_lc (b := [(0, .ref 100), (1, .int x1), (2, .int (x2 + (Int32.ofInt 1)))]) (show ([2, 0, 1] : List Nat).Nodup by decide) (show ([0, 1, 2] : List Nat).Nodup by decide) (fun i => match i with | 0 => rfl | 1 => rfl | 2 => rfl | _ + 3 => rfl) ?_
            exact (ih m hm).2.2 d x1 (x2 + (Int32.ofInt 1)) S hD
          · have hD := hD.2 h5
            show u_P L xs m d m_X12_whistle 36 [(0, .ref 100), (1, .int x1), (2, .int x2)] [] S R _
            refine u_st rfl (fun _ => rfl) ?_
            show u_P L xs m d m_X12_whistle 37 [(0, .ref 100), (1, .int x1), (2, .int x2)] [.ref 100] S R _
            refine u_getr rfl v_tyM rfl ?_
            refine u_st rfl (fun _ => rfl) ?_
            show u_P L xs m d m_X12_whistle 41 [(0, .ref 100), (1, .int x1), (2, .int x2)] [.int x1, .ref 121] S R _
            refine u_ialdE (v := S 120 x1.toInt.toNat) rfl rfl rfl (fun b61 b62 => ?_)
            have hD := hD b61 b62
            show u_P L xs m d m_X12_whistle 42 [(0, .ref 100), (1, .int x1), (2, .int x2)] [.int (S 120 x1.toInt.toNat)] S R _
            refine u_st rfl (fun _ => rfl) ?_
            show u_P L xs m d m_X12_whistle 43 [(0, .ref 100), (1, .int x1), (2, .int x2)] [.ref 100, .int (S 120 x1.toInt.toNat)] S R _
            refine u_getr rfl v_tyM rfl ?_
            refine u_st rfl (fun _ => rfl) ?_
            show u_P L xs m d m_X12_whistle 47 [(0, .ref 100), (1, .int x1), (2, .int x2)] [.int x2, .ref 121, .int (S 120 x1.toInt.toNat)] S R _
            refine u_ialdE (v := S 120 x2.toInt.toNat) rfl rfl rfl (fun b71 b72 => ?_)
            have hD := hD b71 b72
            show u_P L xs m d m_X12_whistle 48 [(0, .ref 100), (1, .int x1), (2, .int x2)] [.int (S 120 x2.toInt.toNat), .int (S 120 x1.toInt.toNat)] S R _
            refine u_ic_ne rfl (fun h8 => ?_) (fun h8 => ?_)
            · have hD := hD.1 h8
              show u_P L xs m d m_X12_whistle 121 [(0, .ref 100), (1, .int x1), (2, .int x2)] [] S R _
              refine u_st rfl (fun _ => rfl) ?_
              refine u_st rfl (fun _ => rfl) ?_
              refine u_lc (b := [(0, .ref 100), (1, .int x1), (2, .int (x2 + (Int32.ofInt 1)))]) (show ([2, 0, 1] : List Nat).Nodup by decide) (show ([0, 1, 2] : List Nat).Nodup by decide) (fun i => match i with | 0 => rfl | 1 => rfl | 2 => rfl | _ + 3 => rfl) ?_
              exact (ih m hm).2.2 d x1 (x2 + (Int32.ofInt 1)) S hD
            · have hD := hD.2 h8
              show u_P L xs m d m_X12_whistle 51 [(0, .ref 100), (1, .int x1), (2, .int x2)] [] S R _
              refine u_st rfl (fun _ => rfl) ?_
              refine u_st rfl (fun _ => rfl) ?_
              refine u_st rfl (fun _ => rfl) ?_
              show u_P L xs m d m_X12_whistle 54 [(0, .ref 100), (1, .int x1), (2, .int x2)] [.int x2, .int x1, .ref 100] S R _
              refine u_cv (rest := []) rfl (by decide) mt_X12_doQuarrel v_tyM rfl rfl rfl (Nat.le_of_ble_eq_true rfl) (Nat.le_of_ble_eq_true rfl) (Nat.le_of_ble_eq_true rfl) (fun d' => c_X12_doQuarrel L xs m d' x1 x2 S R) ?_
              rintro _ _ _ ⟨_, rfl, rfl, rfl, rfl⟩
              show u_P L xs m d m_X12_whistle 57 [(0, .ref 100), (1, .int x1), (2, .int x2)] [.int (f_X12_doQuarrel x1 x2 S)] (g_X12_doQuarrel x1 x2 S) R _
              refine u_if_ne rfl (fun h9 => ?_) (fun h9 => ?_)
              · have hD := hD.1 h9
                show u_P L xs m d m_X12_whistle 63 [(0, .ref 100), (1, .int x1), (2, .int x2)] [] (g_X12_doQuarrel x1 x2 S) R _
                refine u_st rfl (fun _ => rfl) ?_
                refine u_st rfl (fun _ => rfl) ?_
                show u_P L xs m d m_X12_whistle 65 [(0, .ref 100), (1, .int x1), (2, .int x2)] [.ref 100, .ref 100] (g_X12_doQuarrel x1 x2 S) R _
                refine u_getE (v := (g_X12_doQuarrel x1 x2 S) 99 62) rfl v_tyM rfl rfl ?_
                refine u_st rfl (fun _ => rfl) ?_
                refine u_st rfl (fun _ => rfl) ?_
                show u_P L xs m d m_X12_whistle 70 [(0, .ref 100), (1, .int x1), (2, .int x2)] [.int (((g_X12_doQuarrel x1 x2 S) 99 62) + (Int32.ofInt 1)), .ref 100] (g_X12_doQuarrel x1 x2 S) R _
                refine u_put rfl v_tyM rfl ?_
                refine u_st rfl (fun _ => rfl) ?_
                refine u_st rfl (fun _ => rfl) ?_
                show u_P L xs m d m_X12_whistle 75 [(0, .ref 100), (1, .int x1), (2, .int x2)] [.ref 100, .ref 100] (z_s (g_X12_doQuarrel x1 x2 S) 99 62 (((g_X12_doQuarrel x1 x2 S) 99 62) + (Int32.ofInt 1))) R _
                refine u_getE (v := (g_X12_doQuarrel x1 x2 S) 99 72) rfl v_tyM rfl (z_sn (fun h => absurd h.2 (by decide))) ?_
                refine u_st rfl (fun _ => rfl) ?_
                refine u_st rfl (fun _ => rfl) ?_
                show u_P L xs m d m_X12_whistle 80 [(0, .ref 100), (1, .int x1), (2, .int x2)] [.int (((g_X12_doQuarrel x1 x2 S) 99 72) + (Int32.ofInt 1)), .ref 100] (z_s (g_X12_doQuarrel x1 x2 S) 99 62 (((g_X12_doQuarrel x1 x2 S) 99 62) + (Int32.ofInt 1))) R _
                refine u_put rfl v_tyM rfl ?_
                refine u_st rfl (fun _ => rfl) ?_
                show u_P L xs m d m_X12_whistle 84 [(0, .ref 100), (1, .int x1), (2, .int x2)] [.ref 100] (z_s (z_s (g_X12_doQuarrel x1 x2 S) 99 62 (((g_X12_doQuarrel x1 x2 S) 99 62) + (Int32.ofInt 1))) 99 72 (((g_X12_doQuarrel x1 x2 S) 99 72) + (Int32.ofInt 1))) R _
                refine u_getr rfl v_tyM rfl ?_
                refine u_st rfl (fun _ => rfl) ?_
                refine u_st rfl (fun _ => rfl) ?_
                show u_P L xs m d m_X12_whistle 89 [(0, .ref 100), (1, .int x1), (2, .int x2)] [.ref 100, .int x1, .ref 120] (z_s (z_s (g_X12_doQuarrel x1 x2 S) 99 62 (((g_X12_doQuarrel x1 x2 S) 99 62) + (Int32.ofInt 1))) 99 72 (((g_X12_doQuarrel x1 x2 S) 99 72) + (Int32.ofInt 1))) R _
                refine u_getr rfl v_tyM rfl ?_
                refine u_st rfl (fun _ => rfl) ?_
                show u_P L xs m d m_X12_whistle 93 [(0, .ref 100), (1, .int x1), (2, .int x2)] [.int x1, .ref 120, .int x1, .ref 120] (z_s (z_s (g_X12_doQuarrel x1 x2 S) 99 62 (((g_X12_doQuarrel x1 x2 S) 99 62) + (Int32.ofInt 1))) 99 72 (((g_X12_doQuarrel x1 x2 S) 99 72) + (Int32.ofInt 1))) R _
                refine u_ialdE (v := (g_X12_doQuarrel x1 x2 S) 119 x1.toInt.toNat) rfl rfl ((z_sn (fun h => absurd h.1 (by decide))).trans (z_sn (fun h => absurd h.1 (by decide)))) (fun b101 b102 => ?_)
                have hD := hD b101 b102
                show u_P L xs m d m_X12_whistle 94 [(0, .ref 100), (1, .int x1), (2, .int x2)] [.int ((g_X12_doQuarrel x1 x2 S) 119 x1.toInt.toNat), .int x1, .ref 120] (z_s (z_s (g_X12_doQuarrel x1 x2 S) 99 62 (((g_X12_doQuarrel x1 x2 S) 99 62) + (Int32.ofInt 1))) 99 72 (((g_X12_doQuarrel x1 x2 S) 99 72) + (Int32.ofInt 1))) R _
                refine u_st rfl (fun _ => rfl) ?_
                refine u_st rfl (fun _ => rfl) ?_
                refine u_st rfl (fun _ => rfl) ?_
                show u_P L xs m d m_X12_whistle 98 [(0, .ref 100), (1, .int x1), (2, .int x2)] [.int (Int32.ofInt 9), .int (((g_X12_doQuarrel x1 x2 S) 119 x1.toInt.toNat) + (Int32.ofInt 1)), .int x1, .ref 120] (z_s (z_s (g_X12_doQuarrel x1 x2 S) 99 62 (((g_X12_doQuarrel x1 x2 S) 99 62) + (Int32.ofInt 1))) 99 72 (((g_X12_doQuarrel x1 x2 S) 99 72) + (Int32.ofInt 1))) R _
                refine u_cs (ac := [.int (((g_X12_doQuarrel x1 x2 S) 119 x1.toInt.toNat) + (Int32.ofInt 1)), .int (Int32.ofInt 9)]) (rest := [.int x1, .ref 120]) rfl (by decide) mt_X12_held (fun _ => rfl) (Nat.le_of_ble_eq_true rfl) (Nat.le_of_ble_eq_true rfl) (fun d' => c_X12_held L xs m d' (((g_X12_doQuarrel x1 x2 S) 119 x1.toInt.toNat) + (Int32.ofInt 1)) (Int32.ofInt 9) (z_s (z_s (g_X12_doQuarrel x1 x2 S) 99 62 (((g_X12_doQuarrel x1 x2 S) 99 62) + (Int32.ofInt 1))) 99 72 (((g_X12_doQuarrel x1 x2 S) 99 72) + (Int32.ofInt 1))) R) ?_
                rintro _ _ _ ⟨_, rfl, rfl, rfl, rfl⟩
                show u_P L xs m d m_X12_whistle 101 [(0, .ref 100), (1, .int x1), (2, .int x2)] [.int (f_X12_held (((g_X12_doQuarrel x1 x2 S) 119 x1.toInt.toNat) + (Int32.ofInt 1)) (Int32.ofInt 9)), .int x1, .ref 120] (z_s (z_s (g_X12_doQuarrel x1 x2 S) 99 62 (((g_X12_doQuarrel x1 x2 S) 99 62) + (Int32.ofInt 1))) 99 72 (((g_X12_doQuarrel x1 x2 S) 99 72) + (Int32.ofInt 1))) R _
                refine u_iast rfl rfl (fun b111 b112 => ?_)
                have hD := hD b111 b112
                show u_P L xs m d m_X12_whistle 102 [(0, .ref 100), (1, .int x1), (2, .int x2)] [] (z_s (z_s (z_s (g_X12_doQuarrel x1 x2 S) 99 62 (((g_X12_doQuarrel x1 x2 S) 99 62) + (Int32.ofInt 1))) 99 72 (((g_X12_doQuarrel x1 x2 S) 99 72) + (Int32.ofInt 1))) 119 x1.toInt.toNat (f_X12_held (((g_X12_doQuarrel x1 x2 S) 119 x1.toInt.toNat) + (Int32.ofInt 1)) (Int32.ofInt 9))) R _
                refine u_st rfl (fun _ => rfl) ?_
                show u_P L xs m d m_X12_whistle 103 [(0, .ref 100), (1, .int x1), (2, .int x2)] [.ref 100] (z_s (z_s (z_s (g_X12_doQuarrel x1 x2 S) 99 62 (((g_X12_doQuarrel x1 x2 S) 99 62) + (Int32.ofInt 1))) 99 72 (((g_X12_doQuarrel x1 x2 S) 99 72) + (Int32.ofInt 1))) 119 x1.toInt.toNat (f_X12_held (((g_X12_doQuarrel x1 x2 S) 119 x1.toInt.toNat) + (Int32.ofInt 1)) (Int32.ofInt 9))) R _
                refine u_getr rfl v_tyM rfl ?_
                refine u_st rfl (fun _ => rfl) ?_
                refine u_st rfl (fun _ => rfl) ?_
                show u_P L xs m d m_X12_whistle 108 [(0, .ref 100), (1, .int x1), (2, .int x2)] [.ref 100, .int x2, .ref 120] (z_s (z_s (z_s (g_X12_doQuarrel x1 x2 S) 99 62 (((g_X12_doQuarrel x1 x2 S) 99 62) + (Int32.ofInt 1))) 99 72 (((g_X12_doQuarrel x1 x2 S) 99 72) + (Int32.ofInt 1))) 119 x1.toInt.toNat (f_X12_held (((g_X12_doQuarrel x1 x2 S) 119 x1.toInt.toNat) + (Int32.ofInt 1)) (Int32.ofInt 9))) R _
                refine u_getr rfl v_tyM rfl ?_
                refine u_st rfl (fun _ => rfl) ?_
                show u_P L xs m d m_X12_whistle 112 [(0, .ref 100), (1, .int x1), (2, .int x2)] [.int x2, .ref 120, .int x2, .ref 120] (z_s (z_s (z_s (g_X12_doQuarrel x1 x2 S) 99 62 (((g_X12_doQuarrel x1 x2 S) 99 62) + (Int32.ofInt 1))) 99 72 (((g_X12_doQuarrel x1 x2 S) 99 72) + (Int32.ofInt 1))) 119 x1.toInt.toNat (f_X12_held (((g_X12_doQuarrel x1 x2 S) 119 x1.toInt.toNat) + (Int32.ofInt 1)) (Int32.ofInt 9))) R _
                refine u_ialdE (v := (z_s (z_s (z_s (g_X12_doQuarrel x1 x2 S) 99 62 (((g_X12_doQuarrel x1 x2 S) 99 62) + (Int32.ofInt 1))) 99 72 (((g_X12_doQuarrel x1 x2 S) 99 72) + (Int32.ofInt 1))) 119 x1.toInt.toNat (f_X12_held (((g_X12_doQuarrel x1 x2 S) 119 x1.toInt.toNat) + (Int32.ofInt 1)) (Int32.ofInt 9))) 119 x2.toInt.toNat) rfl rfl rfl (fun b121 b122 => ?_)
                have hD := hD b121 b122
                show u_P L xs m d m_X12_whistle 113 [(0, .ref 100), (1, .int x1), (2, .int x2)] [.int ((z_s (z_s (z_s (g_X12_doQuarrel x1 x2 S) 99 62 (((g_X12_doQuarrel x1 x2 S) 99 62) + (Int32.ofInt 1))) 99 72 (((g_X12_doQuarrel x1 x2 S) 99 72) + (Int32.ofInt 1))) 119 x1.toInt.toNat (f_X12_held (((g_X12_doQuarrel x1 x2 S) 119 x1.toInt.toNat) + (Int32.ofInt 1)) (Int32.ofInt 9))) 119 x2.toInt.toNat), .int x2, .ref 120] (z_s (z_s (z_s (g_X12_doQuarrel x1 x2 S) 99 62 (((g_X12_doQuarrel x1 x2 S) 99 62) + (Int32.ofInt 1))) 99 72 (((g_X12_doQuarrel x1 x2 S) 99 72) + (Int32.ofInt 1))) 119 x1.toInt.toNat (f_X12_held (((g_X12_doQuarrel x1 x2 S) 119 x1.toInt.toNat) + (Int32.ofInt 1)) (Int32.ofInt 9))) R _
                refine u_st rfl (fun _ => rfl) ?_
                refine u_st rfl (fun _ => rfl) ?_
                refine u_st rfl (fun _ => rfl) ?_
                show u_P L xs m d m_X12_whistle 117 [(0, .ref 100), (1, .int x1), (2, .int x2)] [.int (Int32.ofInt 9), .int (((z_s (z_s (z_s (g_X12_doQuarrel x1 x2 S) 99 62 (((g_X12_doQuarrel x1 x2 S) 99 62) + (Int32.ofInt 1))) 99 72 (((g_X12_doQuarrel x1 x2 S) 99 72) + (Int32.ofInt 1))) 119 x1.toInt.toNat (f_X12_held (((g_X12_doQuarrel x1 x2 S) 119 x1.toInt.toNat) + (Int32.ofInt 1)) (Int32.ofInt 9))) 119 x2.toInt.toNat) + (Int32.ofInt 1)), .int x2, .ref 120] (z_s (z_s (z_s (g_X12_doQuarrel x1 x2 S) 99 62 (((g_X12_doQuarrel x1 x2 S) 99 62) + (Int32.ofInt 1))) 99 72 (((g_X12_doQuarrel x1 x2 S) 99 72) + (Int32.ofInt 1))) 119 x1.toInt.toNat (f_X12_held (((g_X12_doQuarrel x1 x2 S) 119 x1.toInt.toNat) + (Int32.ofInt 1)) (Int32.ofInt 9))) R _
                refine u_cs (ac := [.int (((z_s (z_s (z_s (g_X12_doQuarrel x1 x2 S) 99 62 (((g_X12_doQuarrel x1 x2 S) 99 62) + (Int32.ofInt 1))) 99 72 (((g_X12_doQuarrel x1 x2 S) 99 72) + (Int32.ofInt 1))) 119 x1.toInt.toNat (f_X12_held (((g_X12_doQuarrel x1 x2 S) 119 x1.toInt.toNat) + (Int32.ofInt 1)) (Int32.ofInt 9))) 119 x2.toInt.toNat) + (Int32.ofInt 1)), .int (Int32.ofInt 9)]) (rest := [.int x2, .ref 120]) rfl (by decide) mt_X12_held (fun _ => rfl) (Nat.le_of_ble_eq_true rfl) (Nat.le_of_ble_eq_true rfl) (fun d' => c_X12_held L xs m d' (((z_s (z_s (z_s (g_X12_doQuarrel x1 x2 S) 99 62 (((g_X12_doQuarrel x1 x2 S) 99 62) + (Int32.ofInt 1))) 99 72 (((g_X12_doQuarrel x1 x2 S) 99 72) + (Int32.ofInt 1))) 119 x1.toInt.toNat (f_X12_held (((g_X12_doQuarrel x1 x2 S) 119 x1.toInt.toNat) + (Int32.ofInt 1)) (Int32.ofInt 9))) 119 x2.toInt.toNat) + (Int32.ofInt 1)) (Int32.ofInt 9) (z_s (z_s (z_s (g_X12_doQuarrel x1 x2 S) 99 62 (((g_X12_doQuarrel x1 x2 S) 99 62) + (Int32.ofInt 1))) 99 72 (((g_X12_doQuarrel x1 x2 S) 99 72) + (Int32.ofInt 1))) 119 x1.toInt.toNat (f_X12_held (((g_X12_doQuarrel x1 x2 S) 119 x1.toInt.toNat) + (Int32.ofInt 1)) (Int32.ofInt 9))) R) ?_
                rintro _ _ _ ⟨_, rfl, rfl, rfl, rfl⟩
                show u_P L xs m d m_X12_whistle 120 [(0, .ref 100), (1, .int x1), (2, .int x2)] [.int (f_X12_held (((z_s (z_s (z_s (g_X12_doQuarrel x1 x2 S) 99 62 (((g_X12_doQuarrel x1 x2 S) 99 62) + (Int32.ofInt 1))) 99 72 (((g_X12_doQuarrel x1 x2 S) 99 72) + (Int32.ofInt 1))) 119 x1.toInt.toNat (f_X12_held (((g_X12_doQuarrel x1 x2 S) 119 x1.toInt.toNat) + (Int32.ofInt 1)) (Int32.ofInt 9))) 119 x2.toInt.toNat) + (Int32.ofInt 1)) (Int32.ofInt 9)), .int x2, .ref 120] (z_s (z_s (z_s (g_X12_doQuarrel x1 x2 S) 99 62 (((g_X12_doQuarrel x1 x2 S) 99 62) + (Int32.ofInt 1))) 99 72 (((g_X12_doQuarrel x1 x2 S) 99 72) + (Int32.ofInt 1))) 119 x1.toInt.toNat (f_X12_held (((g_X12_doQuarrel x1 x2 S) 119 x1.toInt.toNat) + (Int32.ofInt 1)) (Int32.ofInt 9))) R _
                refine u_iast rfl rfl (fun b131 b132 => ?_)
                have hD := hD b131 b132
                show u_P L xs m d m_X12_whistle 121 [(0, .ref 100), (1, .int x1), (2, .int x2)] [] (z_s (z_s (z_s (z_s (g_X12_doQuarrel x1 x2 S) 99 62 (((g_X12_doQuarrel x1 x2 S) 99 62) + (Int32.ofInt 1))) 99 72 (((g_X12_doQuarrel x1 x2 S) 99 72) + (Int32.ofInt 1))) 119 x1.toInt.toNat (f_X12_held (((g_X12_doQuarrel x1 x2 S) 119 x1.toInt.toNat) + (Int32.ofInt 1)) (Int32.ofInt 9))) 119 x2.toInt.toNat (f_X12_held (((z_s (z_s (z_s (g_X12_doQuarrel x1 x2 S) 99 62 (((g_X12_doQuarrel x1 x2 S) 99 62) + (Int32.ofInt 1))) 99 72 (((g_X12_doQuarrel x1 x2 S) 99 72) + (Int32.ofInt 1))) 119 x1.toInt.toNat (f_X12_held (((g_X12_doQuarrel x1 x2 S) 119 x1.toInt.toNat) + (Int32.ofInt 1)) (Int32.ofInt 9))) 119 x2.toInt.toNat) + (Int32.ofInt 1)) (Int32.ofInt 9))) R _
                refine u_st rfl (fun _ => rfl) ?_
                refine u_st rfl (fun _ => rfl) ?_
                refine u_lc (b := [(0, .ref 100), (1, .int x1), (2, .int (x2 + (Int32.ofInt 1)))]) (show ([2, 0, 1] : List Nat).Nodup by decide) (show ([0, 1, 2] : List Nat).Nodup by decide) (fun i => match i with | 0 => rfl | 1 => rfl | 2 => rfl | _ + 3 => rfl) ?_
                exact (ih m hm).2.2 d x1 (x2 + (Int32.ofInt 1)) (z_s (z_s (z_s (z_s (g_X12_doQuarrel x1 x2 S) 99 62 (((g_X12_doQuarrel x1 x2 S) 99 62) + (Int32.ofInt 1))) 99 72 (((g_X12_doQuarrel x1 x2 S) 99 72) + (Int32.ofInt 1))) 119 x1.toInt.toNat (f_X12_held (((g_X12_doQuarrel x1 x2 S) 119 x1.toInt.toNat) + (Int32.ofInt 1)) (Int32.ofInt 9))) 119 x2.toInt.toNat (f_X12_held (((z_s (z_s (z_s (g_X12_doQuarrel x1 x2 S) 99 62 (((g_X12_doQuarrel x1 x2 S) 99 62) + (Int32.ofInt 1))) 99 72 (((g_X12_doQuarrel x1 x2 S) 99 72) + (Int32.ofInt 1))) 119 x1.toInt.toNat (f_X12_held (((g_X12_doQuarrel x1 x2 S) 119 x1.toInt.toNat) + (Int32.ofInt 1)) (Int32.ofInt 9))) 119 x2.toInt.toNat) + (Int32.ofInt 1)) (Int32.ofInt 9))) hD
              · have hD := hD.2 h9
                show u_P L xs m d m_X12_whistle 60 [(0, .ref 100), (1, .int x1), (2, .int x2)] [] (g_X12_doQuarrel x1 x2 S) R _
                refine u_st rfl (fun _ => rfl) ?_
                refine u_st rfl (fun _ => rfl) ?_
                refine u_st rfl (fun _ => rfl) ?_
                refine u_lc (b := [(0, .ref 100), (1, .int x1), (2, .int (x2 + (Int32.ofInt 1)))]) (show ([2, 0, 1] : List Nat).Nodup by decide) (show ([0, 1, 2] : List Nat).Nodup by decide) (fun i => match i with | 0 => rfl | 1 => rfl | 2 => rfl | _ + 3 => rfl) ?_
                exact (ih m hm).2.2 d x1 (x2 + (Int32.ofInt 1)) (g_X12_doQuarrel x1 x2 S) hD
set_option maxRecDepth 4000 in
theorem w_X12_whistle (L : Nat) (xs : Nat → Int32) {R : v_Rf}  (H2 : Int32 → v_Sf → Prop) (H12 : Int32 → Int32 → v_Sf → Prop) (K : v_Sf → Prop) (k2 : ∀ (x1 : Int32) (S : v_Sf), H2 x1 S → D_X12_whistle_2 H2 H12 K x1 S) (k12 : ∀ (x1 : Int32) (x2 : Int32) (S : v_Sf), H12 x1 x2 S → D_X12_whistle_12 H2 H12 K x1 x2 S) (n d : Nat) (S : v_Sf) (hD : D_X12_whistle H2 H12 K S) : u_P L xs n d m_X12_whistle 0 (lv_args 0 [.ref 100]) [] S R (z_V R K) := by
  unfold D_X12_whistle at hD
  show u_P L xs n d m_X12_whistle 0 [(0, .ref 100)] [] S R _
  refine u_st rfl (fun _ => rfl) ?_
  refine u_st rfl (fun _ => rfl) ?_
  refine u_lc (b := [(0, .ref 100), (1, .int (Int32.ofInt 0))]) (show ([1, 0] : List Nat).Nodup by decide) (show ([0, 1] : List Nat).Nodup by decide) (fun i => match i with | 0 => rfl | 1 => rfl | _ + 2 => rfl) ?_
  exact (hd_X12_whistle L xs H2 H12 K k2 k12 n).1 d (Int32.ofInt 0) S hD
noncomputable def r_X12_whistle_12 (κ2 : v_Sf → v_Sf) (k2 : Nat) : Nat → Nat → v_Sf → v_Sf
  | 0, k12, S => κ2 S
  | r + 1, k12, S => (if (S 116 (z_i k2).toInt.toNat) = 0 then r_X12_whistle_12 κ2 k2 r (k12 + 1) S else (if (S 116 (z_i k12).toInt.toNat) = 0 then r_X12_whistle_12 κ2 k2 r (k12 + 1) S else (if ¬ (S 120 (z_i k2).toInt.toNat) = (S 120 (z_i k12).toInt.toNat) then r_X12_whistle_12 κ2 k2 r (k12 + 1) S else (if ¬ (f_X12_doQuarrel (z_i k2) (z_i k12) S) = 0 then r_X12_whistle_12 κ2 k2 r (k12 + 1) (z_s (z_s (z_s (z_s (g_X12_doQuarrel (z_i k2) (z_i k12) S) 99 62 (((g_X12_doQuarrel (z_i k2) (z_i k12) S) 99 62) + (Int32.ofInt 1))) 99 72 (((g_X12_doQuarrel (z_i k2) (z_i k12) S) 99 72) + (Int32.ofInt 1))) 119 (z_i k2).toInt.toNat (f_X12_held (((g_X12_doQuarrel (z_i k2) (z_i k12) S) 119 (z_i k2).toInt.toNat) + (Int32.ofInt 1)) (Int32.ofInt 9))) 119 (z_i k12).toInt.toNat (f_X12_held (((z_s (z_s (z_s (g_X12_doQuarrel (z_i k2) (z_i k12) S) 99 62 (((g_X12_doQuarrel (z_i k2) (z_i k12) S) 99 62) + (Int32.ofInt 1))) 99 72 (((g_X12_doQuarrel (z_i k2) (z_i k12) S) 99 72) + (Int32.ofInt 1))) 119 (z_i k2).toInt.toNat (f_X12_held (((g_X12_doQuarrel (z_i k2) (z_i k12) S) 119 (z_i k2).toInt.toNat) + (Int32.ofInt 1)) (Int32.ofInt 9))) 119 (z_i k12).toInt.toNat) + (Int32.ofInt 1)) (Int32.ofInt 9))) else r_X12_whistle_12 κ2 k2 r (k12 + 1) (g_X12_doQuarrel (z_i k2) (z_i k12) S)))))
noncomputable def r_X12_whistle_2  : Nat → Nat → v_Sf → v_Sf
  | 0, k2, S => S
  | r + 1, k2, S => r_X12_whistle_12 (fun S => r_X12_whistle_2 r (k2 + 1) S) k2 (12 - (k2 + 1)) (k2 + 1) S
noncomputable def F_X12_whistle  (S : v_Sf) : v_Sf := r_X12_whistle_2 (12 - 0) 0 S
noncomputable def g_X12_whistle  (S : v_Sf) : v_Sf := F_X12_whistle  S
theorem c_X12_whistle (L : Nat) (xs : Nat → Int32) (n d : Nat)  (S : v_Sf) (R : v_Rf) : u_P L xs n d m_X12_whistle 0 (lv_args 0 [.ref 100]) [] S R (z_V R (fun S1 => g_X12_whistle  S = S1)) := by
  refine w_X12_whistle L xs  (fun y1 T => ∃ (k2 : Nat), k2 ≤ 12 ∧ z_i k2 = y1 ∧ r_X12_whistle_2 (12 - k2) k2 T = F_X12_whistle  S) (fun y1 y2 T => ∃ (k2 k12 : Nat), k12 ≤ 12 ∧ z_i k12 = y2 ∧ k2 < 12 ∧ z_i k2 = y1 ∧ r_X12_whistle_12 (fun V => r_X12_whistle_2 (12 - (k2 + 1)) (k2 + 1) V) k2 (12 - k12) k12 T = F_X12_whistle  S) (fun S1 => g_X12_whistle  S = S1) ?_ ?_ n d S ?_
  · rintro _ S1 ⟨k2, hkk, rfl, e⟩
    unfold D_X12_whistle_2
    rcases Nat.lt_or_ge k2 (12) with hk | hk
    · rw [show 12 - k2 = (12 - (k2 + 1)) + 1 by omega, r_X12_whistle_2] at e
      refine ⟨fun q1 => ?_, fun q1 => ?_⟩
      · exact absurd hk (Nat.not_lt.mpr (z_leB2 (B := 12) q1 (by decide) (by omega)))
      · exact ⟨k2, (k2 + 1), by omega, (z_i1 k2).symm, by omega, rfl, e⟩
    · rw [show 12 - k2 = 0 by omega, r_X12_whistle_2] at e
      refine ⟨fun q2 => ?_, fun q2 => ?_⟩
      · exact e.symm
      · exact absurd hk (Nat.not_le.mpr (z_ltB2 (B := 12) q2 (by decide) (by omega)))
  · rintro _ _ S1 ⟨k2, k12, hkk, rfl, hk2, rfl, e⟩
    unfold D_X12_whistle_12
    rcases Nat.lt_or_ge k12 (12) with hk | hk
    · rw [show 12 - k12 = (12 - (k12 + 1)) + 1 by omega, r_X12_whistle_12] at e
      refine ⟨fun q3 => ?_, fun q3 => ?_⟩
      · exact absurd hk (Nat.not_lt.mpr (z_leB2 (B := 12) q3 (by decide) (by omega)))
      · intro _ _
        refine ⟨fun q4 => ?_, fun q4 => ?_⟩
        · rw [if_pos q4] at e
          exact ⟨k2, (k12 + 1), by omega, (z_i1 k12).symm, by omega, rfl, e⟩
        · intro _ _
          refine ⟨fun q5 => ?_, fun q5 => ?_⟩
          · rw [if_neg q4, if_pos q5] at e
            exact ⟨k2, (k12 + 1), by omega, (z_i1 k12).symm, by omega, rfl, e⟩
          · intro _ _
            intro _ _
            refine ⟨fun q6 => ?_, fun q6 => ?_⟩
            · rw [if_neg q4, if_neg q5, if_pos q6] at e
              exact ⟨k2, (k12 + 1), by omega, (z_i1 k12).symm, by omega, rfl, e⟩
            · refine ⟨fun q7 => ?_, fun q7 => ?_⟩
              · intro _ _
                intro _ _
                intro _ _
                intro _ _
                rw [if_neg q4, if_neg q5, if_neg q6, if_pos q7] at e
                exact ⟨k2, (k12 + 1), by omega, (z_i1 k12).symm, by omega, rfl, e⟩
              · rw [if_neg q4, if_neg q5, if_neg q6, if_neg q7] at e
                exact ⟨k2, (k12 + 1), by omega, (z_i1 k12).symm, by omega, rfl, e⟩
    · rw [show 12 - k12 = 0 by omega, r_X12_whistle_12] at e
      refine ⟨fun q8 => ?_, fun q8 => ?_⟩
      · exact ⟨(k2 + 1), by omega, (z_i1 k2).symm, e⟩
      · exact absurd hk (Nat.not_le.mpr (z_ltB2 (B := 12) q8 (by decide) (by omega)))
  · unfold D_X12_whistle
    have e : r_X12_whistle_2 (12 - 0) 0 S = F_X12_whistle  S := by rw [F_X12_whistle]
    exact ⟨0, by omega, rfl, e⟩
noncomputable abbrev m_X12_nursesGo : g_M := (g_cn 12, yX12_nursesGo, cX12_nursesGo, 3, none, g_look2 ttX12_nursesGo)
set_option maxRecDepth 20000 in
theorem mt_X12_nursesGo : g_mt 235 = some m_X12_nursesGo := rfl
noncomputable def D_X12_nursesGo_2  (H2 : Int32 → v_Sf → Prop) (H34 : Int32 → v_Sf → Prop) (K : v_Sf → Prop) (x1 : Int32) (S : v_Sf) : Prop := (((Int32.ofInt 5) ≤ x1 → H34 (Int32.ofInt 0) S) ∧ (¬ ((Int32.ofInt 5) ≤ x1) → (0 ≤ x1.toInt → x1.toInt < 5 → (((S 131 x1.toInt.toNat) ≤ 0 → H2 (x1 + (Int32.ofInt 1)) S) ∧ (¬ ((S 131 x1.toInt.toNat) ≤ 0) → (0 ≤ x1.toInt → x1.toInt < 5 → (0 ≤ x1.toInt → x1.toInt < 5 → H2 (x1 + (Int32.ofInt 1)) (z_s S 131 x1.toInt.toNat ((S 131 x1.toInt.toNat) - (Int32.ofInt 1))))))))))
noncomputable def D_X12_nursesGo_34  (H2 : Int32 → v_Sf → Prop) (H34 : Int32 → v_Sf → Prop) (K : v_Sf → Prop) (x1 : Int32) (S : v_Sf) : Prop := (((Int32.ofInt 6) ≤ x1 → K S) ∧ (¬ ((Int32.ofInt 6) ≤ x1) → (((f_X12_isWell x1 S) = 0 → H34 (x1 + (Int32.ofInt 1)) S) ∧ (¬ ((f_X12_isWell x1 S) = 0) → (((¬ (f_X12_manyIn x1 S) = 0) → (0 ≤ x1.toInt → x1.toInt < 6 → (((f_X12_draw (g_X12_falling (S 125 x1.toInt.toNat) x1 S)) < (f_X12_falling (S 125 x1.toInt.toNat) x1 S) → (0 ≤ x1.toInt → x1.toInt < 6 → (0 ≤ x1.toInt → x1.toInt < 6 → (0 ≤ ((g_X12_draw (g_X12_falling (S 125 x1.toInt.toNat) x1 S)) 125 x1.toInt.toNat).toInt → ((g_X12_draw (g_X12_falling (S 125 x1.toInt.toNat) x1 S)) 125 x1.toInt.toNat).toInt < 5 → (0 ≤ ((g_X12_draw (g_X12_falling (S 125 x1.toInt.toNat) x1 S)) 125 x1.toInt.toNat).toInt → ((g_X12_draw (g_X12_falling (S 125 x1.toInt.toNat) x1 S)) 125 x1.toInt.toNat).toInt < 5 → H34 (x1 + (Int32.ofInt 1)) (z_s (z_s (g_X12_draw (g_X12_falling (S 125 x1.toInt.toNat) x1 S)) 131 (((g_X12_draw (g_X12_falling (S 125 x1.toInt.toNat) x1 S)) 125 x1.toInt.toNat).toInt.toNat) (((g_X12_draw (g_X12_falling (S 125 x1.toInt.toNat) x1 S)) 130 (((g_X12_draw (g_X12_falling (S 125 x1.toInt.toNat) x1 S)) 125 x1.toInt.toNat).toInt.toNat)) + (Int32.ofInt 1))) 99 73 (((g_X12_draw (g_X12_falling (S 125 x1.toInt.toNat) x1 S)) 99 73) + (Int32.ofInt 1)))))))) ∧ (¬ ((f_X12_draw (g_X12_falling (S 125 x1.toInt.toNat) x1 S)) < (f_X12_falling (S 125 x1.toInt.toNat) x1 S)) → H34 (x1 + (Int32.ofInt 1)) (g_X12_draw (g_X12_falling (S 125 x1.toInt.toNat) x1 S)))))) ∧ (¬ (¬ (f_X12_manyIn x1 S) = 0) → H34 (x1 + (Int32.ofInt 1)) S))))))
noncomputable def D_X12_nursesGo  (H2 : Int32 → v_Sf → Prop) (H34 : Int32 → v_Sf → Prop) (K : v_Sf → Prop) (S : v_Sf) : Prop := H2 (Int32.ofInt 0) S
set_option maxRecDepth 4000 in
theorem hd_X12_nursesGo (L : Nat) (xs : Nat → Int32) {R : v_Rf}  (H2 : Int32 → v_Sf → Prop) (H34 : Int32 → v_Sf → Prop) (K : v_Sf → Prop) (k2 : ∀ (x1 : Int32) (S : v_Sf), H2 x1 S → D_X12_nursesGo_2 H2 H34 K x1 S) (k34 : ∀ (x1 : Int32) (S : v_Sf), H34 x1 S → D_X12_nursesGo_34 H2 H34 K x1 S) : ∀ n, (∀ (d : Nat) (x1 : Int32) (S : v_Sf), H2 x1 S → u_P L xs n d m_X12_nursesGo 2 [(0, .ref 100), (1, .int x1)] [] S R (z_V R K)) ∧ (∀ (d : Nat) (x1 : Int32) (S : v_Sf), H34 x1 S → u_P L xs n d m_X12_nursesGo 34 [(0, .ref 100), (1, .int x1)] [] S R (z_V R K)) ∧ (∀ (d : Nat) (j2 : Int32) (x1 : Int32) (S : v_Sf), H34 x1 S → u_P L xs n d m_X12_nursesGo 34 [(0, .ref 100), (1, .int x1), (2, .int j2)] [] S R (z_V R K)) := by
  intro n
  induction n using Nat.strongRecOn with
  | ind n ih =>
    refine ⟨?_, ?_, ?_⟩
    · intro d x1 S hD
      have hD := k2 x1 S hD
      unfold D_X12_nursesGo_2 at hD
      show u_P L xs n d m_X12_nursesGo 2 [(0, .ref 100), (1, .int x1)] [] S R _
      refine u_st1 rfl (fun _ => rfl) (fun m hm => ?_)
      refine u_st rfl (fun _ => rfl) ?_
      show u_P L xs m d m_X12_nursesGo 4 [(0, .ref 100), (1, .int x1)] [.int (Int32.ofInt 5), .int x1] S R _
      refine u_ic_ge rfl (fun h1 => ?_) (fun h1 => ?_)
      · have hD := hD.1 h1
        show u_P L xs m d m_X12_nursesGo 32 [(0, .ref 100), (1, .int x1)] [] S R _
        refine u_st rfl (fun _ => rfl) ?_
        refine u_st rfl (fun _ => rfl) ?_
        refine u_lc (b := [(0, .ref 100), (1, .int (Int32.ofInt 0))]) (show ([1, 0] : List Nat).Nodup by decide) (show ([0, 1] : List Nat).Nodup by decide) (fun i => match i with | 0 => rfl | 1 => rfl | _ + 2 => rfl) ?_
        exact (ih m hm).2.1 d (Int32.ofInt 0) S hD
      · have hD := hD.2 h1
        show u_P L xs m d m_X12_nursesGo 7 [(0, .ref 100), (1, .int x1)] [] S R _
        refine u_st rfl (fun _ => rfl) ?_
        show u_P L xs m d m_X12_nursesGo 8 [(0, .ref 100), (1, .int x1)] [.ref 100] S R _
        refine u_getr rfl v_tyM rfl ?_
        refine u_st rfl (fun _ => rfl) ?_
        show u_P L xs m d m_X12_nursesGo 12 [(0, .ref 100), (1, .int x1)] [.int x1, .ref 132] S R _
        refine u_ialdE (v := S 131 x1.toInt.toNat) rfl rfl rfl (fun b21 b22 => ?_)
        have hD := hD b21 b22
        show u_P L xs m d m_X12_nursesGo 13 [(0, .ref 100), (1, .int x1)] [.int (S 131 x1.toInt.toNat)] S R _
        refine u_if_le rfl (fun h3 => ?_) (fun h3 => ?_)
        · have hD := hD.1 h3
          show u_P L xs m d m_X12_nursesGo 26 [(0, .ref 100), (1, .int x1)] [] S R _
          refine u_st rfl (fun _ => rfl) ?_
          refine u_st rfl (fun _ => rfl) ?_
          refine u_lc (b := [(0, .ref 100), (1, .int (x1 + (Int32.ofInt 1)))]) (show ([1, 0] : List Nat).Nodup by decide) (show ([0, 1] : List Nat).Nodup by decide) (fun i => match i with | 0 => rfl | 1 => rfl | _ + 2 => rfl) ?_
          exact (ih m hm).1 d (x1 + (Int32.ofInt 1)) S hD
        · have hD := hD.2 h3
          show u_P L xs m d m_X12_nursesGo 16 [(0, .ref 100), (1, .int x1)] [] S R _
          refine u_st rfl (fun _ => rfl) ?_
          show u_P L xs m d m_X12_nursesGo 17 [(0, .ref 100), (1, .int x1)] [.ref 100] S R _
          refine u_getr rfl v_tyM rfl ?_
          refine u_st rfl (fun _ => rfl) ?_
          refine u_st rfl (fun _ => rfl) ?_
          show u_P L xs m d m_X12_nursesGo 22 [(0, .ref 100), (1, .int x1)] [.int x1, .ref 132, .int x1, .ref 132] S R _
          refine u_ialdE (v := S 131 x1.toInt.toNat) rfl rfl rfl (fun b41 b42 => ?_)
          have hD := hD b41 b42
          show u_P L xs m d m_X12_nursesGo 23 [(0, .ref 100), (1, .int x1)] [.int (S 131 x1.toInt.toNat), .int x1, .ref 132] S R _
          refine u_st rfl (fun _ => rfl) ?_
          refine u_st rfl (fun _ => rfl) ?_
          show u_P L xs m d m_X12_nursesGo 25 [(0, .ref 100), (1, .int x1)] [.int ((S 131 x1.toInt.toNat) - (Int32.ofInt 1)), .int x1, .ref 132] S R _
          refine u_iast rfl rfl (fun b51 b52 => ?_)
          have hD := hD b51 b52
          show u_P L xs m d m_X12_nursesGo 26 [(0, .ref 100), (1, .int x1)] [] (z_s S 131 x1.toInt.toNat ((S 131 x1.toInt.toNat) - (Int32.ofInt 1))) R _
          refine u_st rfl (fun _ => rfl) ?_
          refine u_st rfl (fun _ => rfl) ?_
          refine u_lc (b := [(0, .ref 100), (1, .int (x1 + (Int32.ofInt 1)))]) (show ([1, 0] : List Nat).Nodup by decide) (show ([0, 1] : List Nat).Nodup by decide) (fun i => match i with | 0 => rfl | 1 => rfl | _ + 2 => rfl) ?_
          exact (ih m hm).1 d (x1 + (Int32.ofInt 1)) (z_s S 131 x1.toInt.toNat ((S 131 x1.toInt.toNat) - (Int32.ofInt 1))) hD
    · intro d x1 S hD
      have hD := k34 x1 S hD
      unfold D_X12_nursesGo_34 at hD
      show u_P L xs n d m_X12_nursesGo 34 [(0, .ref 100), (1, .int x1)] [] S R _
      refine u_st1 rfl (fun _ => rfl) (fun m hm => ?_)
      refine u_st rfl (fun _ => rfl) ?_
      show u_P L xs m d m_X12_nursesGo 37 [(0, .ref 100), (1, .int x1)] [.int (Int32.ofInt 6), .int x1] S R _
      refine u_ic_ge rfl (fun h1 => ?_) (fun h1 => ?_)
      · have hD := hD.1 h1
        show u_P L xs m d m_X12_nursesGo 122 [(0, .ref 100), (1, .int x1)] [] S R _
        exact u_ret rfl rfl ⟨rfl, rfl, hD⟩
      · have hD := hD.2 h1
        show u_P L xs m d m_X12_nursesGo 40 [(0, .ref 100), (1, .int x1)] [] S R _
        refine u_st rfl (fun _ => rfl) ?_
        refine u_st rfl (fun _ => rfl) ?_
        show u_P L xs m d m_X12_nursesGo 42 [(0, .ref 100), (1, .int x1)] [.int x1, .ref 100] S R _
        refine u_cv (rest := []) rfl (by decide) mt_X12_isWell v_tyM rfl rfl rfl (Nat.le_of_ble_eq_true rfl) (Nat.le_of_ble_eq_true rfl) (Nat.le_of_ble_eq_true rfl) (fun d' => c_X12_isWell L xs m d' x1 S R) ?_
        rintro _ _ _ ⟨_, rfl, rfl, rfl, rfl⟩
        show u_P L xs m d m_X12_nursesGo 45 [(0, .ref 100), (1, .int x1)] [.int (f_X12_isWell x1 S)] S R _
        refine u_if_eq rfl (fun h2 => ?_) (fun h2 => ?_)
        · have hD := hD.1 h2
          show u_P L xs m d m_X12_nursesGo 116 [(0, .ref 100), (1, .int x1)] [] S R _
          refine u_st rfl (fun _ => rfl) ?_
          refine u_st rfl (fun _ => rfl) ?_
          refine u_lc (b := [(0, .ref 100), (1, .int (x1 + (Int32.ofInt 1)))]) (show ([1, 0] : List Nat).Nodup by decide) (show ([0, 1] : List Nat).Nodup by decide) (fun i => match i with | 0 => rfl | 1 => rfl | _ + 2 => rfl) ?_
          exact (ih m hm).2.1 d (x1 + (Int32.ofInt 1)) S hD
        · have hD := hD.2 h2
          show u_P L xs m d m_X12_nursesGo 48 [(0, .ref 100), (1, .int x1)] [] S R _
          refine u_st rfl (fun _ => rfl) ?_
          refine u_st rfl (fun _ => rfl) ?_
          show u_P L xs m d m_X12_nursesGo 50 [(0, .ref 100), (1, .int x1)] [.int x1, .ref 100] S R _
          refine u_cv (rest := []) rfl (by decide) mt_X12_manyIn v_tyM rfl rfl rfl (Nat.le_of_ble_eq_true rfl) (Nat.le_of_ble_eq_true rfl) (Nat.le_of_ble_eq_true rfl) (fun d' => c_X12_manyIn L xs m d' x1 S R) ?_
          rintro _ _ _ ⟨_, rfl, rfl, rfl, rfl⟩
          show u_P L xs m d m_X12_nursesGo 53 [(0, .ref 100), (1, .int x1)] [.int (f_X12_manyIn x1 S)] S R _
          refine u_if_ne rfl (fun h3 => ?_) (fun h3 => ?_)
          · have hD := hD.1 h3
            show u_P L xs m d m_X12_nursesGo 59 [(0, .ref 100), (1, .int x1)] [] S R _
            refine u_st rfl (fun _ => rfl) ?_
            refine u_st rfl (fun _ => rfl) ?_
            show u_P L xs m d m_X12_nursesGo 61 [(0, .ref 100), (1, .int x1)] [.ref 100, .ref 100] S R _
            refine u_getr rfl v_tyM rfl ?_
            refine u_st rfl (fun _ => rfl) ?_
            show u_P L xs m d m_X12_nursesGo 65 [(0, .ref 100), (1, .int x1)] [.int x1, .ref 126, .ref 100] S R _
            refine u_ialdE (v := S 125 x1.toInt.toNat) rfl rfl rfl (fun b41 b42 => ?_)
            have hD := hD b41 b42
            show u_P L xs m d m_X12_nursesGo 66 [(0, .ref 100), (1, .int x1)] [.int (S 125 x1.toInt.toNat), .ref 100] S R _
            refine u_st rfl (fun _ => rfl) ?_
            show u_P L xs m d m_X12_nursesGo 67 [(0, .ref 100), (1, .int x1)] [.int x1, .int (S 125 x1.toInt.toNat), .ref 100] S R _
            refine u_cv (rest := []) rfl (by decide) mt_X12_falling v_tyM rfl rfl rfl (Nat.le_of_ble_eq_true rfl) (Nat.le_of_ble_eq_true rfl) (Nat.le_of_ble_eq_true rfl) (fun d' => c_X12_falling L xs m d' (S 125 x1.toInt.toNat) x1 S R) ?_
            rintro _ _ _ ⟨_, rfl, rfl, rfl, rfl⟩
            refine u_st rfl (fun _ => rfl) ?_
            refine u_st rfl (fun _ => rfl) ?_
            show u_P L xs m d m_X12_nursesGo 72 [(2, .int (f_X12_falling (S 125 x1.toInt.toNat) x1 S)), (0, .ref 100), (1, .int x1)] [.ref 100] (g_X12_falling (S 125 x1.toInt.toNat) x1 S) R _
            refine u_cv (rest := []) rfl (by decide) mt_X12_draw v_tyM rfl rfl rfl (Nat.le_of_ble_eq_true rfl) (Nat.le_of_ble_eq_true rfl) (Nat.le_of_ble_eq_true rfl) (fun d' => c_X12_draw L xs m d' (g_X12_falling (S 125 x1.toInt.toNat) x1 S) R) ?_
            rintro _ _ _ ⟨_, rfl, rfl, rfl, rfl⟩
            refine u_st rfl (fun _ => rfl) ?_
            show u_P L xs m d m_X12_nursesGo 76 [(2, .int (f_X12_falling (S 125 x1.toInt.toNat) x1 S)), (0, .ref 100), (1, .int x1)] [.int (f_X12_falling (S 125 x1.toInt.toNat) x1 S), .int (f_X12_draw (g_X12_falling (S 125 x1.toInt.toNat) x1 S))] (g_X12_draw (g_X12_falling (S 125 x1.toInt.toNat) x1 S)) R _
            refine u_ic_lt rfl (fun h5 => ?_) (fun h5 => ?_)
            · have hD := hD.1 h5
              show u_P L xs m d m_X12_nursesGo 82 [(2, .int (f_X12_falling (S 125 x1.toInt.toNat) x1 S)), (0, .ref 100), (1, .int x1)] [] (g_X12_draw (g_X12_falling (S 125 x1.toInt.toNat) x1 S)) R _
              refine u_st rfl (fun _ => rfl) ?_
              show u_P L xs m d m_X12_nursesGo 83 [(2, .int (f_X12_falling (S 125 x1.toInt.toNat) x1 S)), (0, .ref 100), (1, .int x1)] [.ref 100] (g_X12_draw (g_X12_falling (S 125 x1.toInt.toNat) x1 S)) R _
              refine u_getr rfl v_tyM rfl ?_
              refine u_st rfl (fun _ => rfl) ?_
              show u_P L xs m d m_X12_nursesGo 87 [(2, .int (f_X12_falling (S 125 x1.toInt.toNat) x1 S)), (0, .ref 100), (1, .int x1)] [.ref 100, .ref 132] (g_X12_draw (g_X12_falling (S 125 x1.toInt.toNat) x1 S)) R _
              refine u_getr rfl v_tyM rfl ?_
              refine u_st rfl (fun _ => rfl) ?_
              show u_P L xs m d m_X12_nursesGo 91 [(2, .int (f_X12_falling (S 125 x1.toInt.toNat) x1 S)), (0, .ref 100), (1, .int x1)] [.int x1, .ref 126, .ref 132] (g_X12_draw (g_X12_falling (S 125 x1.toInt.toNat) x1 S)) R _
              refine u_ialdE (v := (g_X12_draw (g_X12_falling (S 125 x1.toInt.toNat) x1 S)) 125 x1.toInt.toNat) rfl rfl rfl (fun b61 b62 => ?_)
              have hD := hD b61 b62
              show u_P L xs m d m_X12_nursesGo 92 [(2, .int (f_X12_falling (S 125 x1.toInt.toNat) x1 S)), (0, .ref 100), (1, .int x1)] [.int ((g_X12_draw (g_X12_falling (S 125 x1.toInt.toNat) x1 S)) 125 x1.toInt.toNat), .ref 132] (g_X12_draw (g_X12_falling (S 125 x1.toInt.toNat) x1 S)) R _
              refine u_st rfl (fun _ => rfl) ?_
              show u_P L xs m d m_X12_nursesGo 93 [(2, .int (f_X12_falling (S 125 x1.toInt.toNat) x1 S)), (0, .ref 100), (1, .int x1)] [.ref 100, .int ((g_X12_draw (g_X12_falling (S 125 x1.toInt.toNat) x1 S)) 125 x1.toInt.toNat), .ref 132] (g_X12_draw (g_X12_falling (S 125 x1.toInt.toNat) x1 S)) R _
              refine u_getr rfl v_tyM rfl ?_
              refine u_st rfl (fun _ => rfl) ?_
              show u_P L xs m d m_X12_nursesGo 97 [(2, .int (f_X12_falling (S 125 x1.toInt.toNat) x1 S)), (0, .ref 100), (1, .int x1)] [.ref 100, .ref 131, .int ((g_X12_draw (g_X12_falling (S 125 x1.toInt.toNat) x1 S)) 125 x1.toInt.toNat), .ref 132] (g_X12_draw (g_X12_falling (S 125 x1.toInt.toNat) x1 S)) R _
              refine u_getr rfl v_tyM rfl ?_
              refine u_st rfl (fun _ => rfl) ?_
              show u_P L xs m d m_X12_nursesGo 101 [(2, .int (f_X12_falling (S 125 x1.toInt.toNat) x1 S)), (0, .ref 100), (1, .int x1)] [.int x1, .ref 126, .ref 131, .int ((g_X12_draw (g_X12_falling (S 125 x1.toInt.toNat) x1 S)) 125 x1.toInt.toNat), .ref 132] (g_X12_draw (g_X12_falling (S 125 x1.toInt.toNat) x1 S)) R _
              refine u_ialdE (v := (g_X12_draw (g_X12_falling (S 125 x1.toInt.toNat) x1 S)) 125 x1.toInt.toNat) rfl rfl rfl (fun b71 b72 => ?_)
              have hD := hD b71 b72
              show u_P L xs m d m_X12_nursesGo 102 [(2, .int (f_X12_falling (S 125 x1.toInt.toNat) x1 S)), (0, .ref 100), (1, .int x1)] [.int ((g_X12_draw (g_X12_falling (S 125 x1.toInt.toNat) x1 S)) 125 x1.toInt.toNat), .ref 131, .int ((g_X12_draw (g_X12_falling (S 125 x1.toInt.toNat) x1 S)) 125 x1.toInt.toNat), .ref 132] (g_X12_draw (g_X12_falling (S 125 x1.toInt.toNat) x1 S)) R _
              refine u_ialdE (v := (g_X12_draw (g_X12_falling (S 125 x1.toInt.toNat) x1 S)) 130 (((g_X12_draw (g_X12_falling (S 125 x1.toInt.toNat) x1 S)) 125 x1.toInt.toNat).toInt.toNat)) rfl rfl rfl (fun b81 b82 => ?_)
              have hD := hD b81 b82
              show u_P L xs m d m_X12_nursesGo 103 [(2, .int (f_X12_falling (S 125 x1.toInt.toNat) x1 S)), (0, .ref 100), (1, .int x1)] [.int ((g_X12_draw (g_X12_falling (S 125 x1.toInt.toNat) x1 S)) 130 (((g_X12_draw (g_X12_falling (S 125 x1.toInt.toNat) x1 S)) 125 x1.toInt.toNat).toInt.toNat)), .int ((g_X12_draw (g_X12_falling (S 125 x1.toInt.toNat) x1 S)) 125 x1.toInt.toNat), .ref 132] (g_X12_draw (g_X12_falling (S 125 x1.toInt.toNat) x1 S)) R _
              refine u_st rfl (fun _ => rfl) ?_
              refine u_st rfl (fun _ => rfl) ?_
              show u_P L xs m d m_X12_nursesGo 105 [(2, .int (f_X12_falling (S 125 x1.toInt.toNat) x1 S)), (0, .ref 100), (1, .int x1)] [.int (((g_X12_draw (g_X12_falling (S 125 x1.toInt.toNat) x1 S)) 130 (((g_X12_draw (g_X12_falling (S 125 x1.toInt.toNat) x1 S)) 125 x1.toInt.toNat).toInt.toNat)) + (Int32.ofInt 1)), .int ((g_X12_draw (g_X12_falling (S 125 x1.toInt.toNat) x1 S)) 125 x1.toInt.toNat), .ref 132] (g_X12_draw (g_X12_falling (S 125 x1.toInt.toNat) x1 S)) R _
              refine u_iast rfl rfl (fun b91 b92 => ?_)
              have hD := hD b91 b92
              show u_P L xs m d m_X12_nursesGo 106 [(2, .int (f_X12_falling (S 125 x1.toInt.toNat) x1 S)), (0, .ref 100), (1, .int x1)] [] (z_s (g_X12_draw (g_X12_falling (S 125 x1.toInt.toNat) x1 S)) 131 (((g_X12_draw (g_X12_falling (S 125 x1.toInt.toNat) x1 S)) 125 x1.toInt.toNat).toInt.toNat) (((g_X12_draw (g_X12_falling (S 125 x1.toInt.toNat) x1 S)) 130 (((g_X12_draw (g_X12_falling (S 125 x1.toInt.toNat) x1 S)) 125 x1.toInt.toNat).toInt.toNat)) + (Int32.ofInt 1))) R _
              refine u_st rfl (fun _ => rfl) ?_
              refine u_st rfl (fun _ => rfl) ?_
              show u_P L xs m d m_X12_nursesGo 108 [(2, .int (f_X12_falling (S 125 x1.toInt.toNat) x1 S)), (0, .ref 100), (1, .int x1)] [.ref 100, .ref 100] (z_s (g_X12_draw (g_X12_falling (S 125 x1.toInt.toNat) x1 S)) 131 (((g_X12_draw (g_X12_falling (S 125 x1.toInt.toNat) x1 S)) 125 x1.toInt.toNat).toInt.toNat) (((g_X12_draw (g_X12_falling (S 125 x1.toInt.toNat) x1 S)) 130 (((g_X12_draw (g_X12_falling (S 125 x1.toInt.toNat) x1 S)) 125 x1.toInt.toNat).toInt.toNat)) + (Int32.ofInt 1))) R _
              refine u_getE (v := (g_X12_draw (g_X12_falling (S 125 x1.toInt.toNat) x1 S)) 99 73) rfl v_tyM rfl (z_sn (fun h => absurd h.1 (by decide))) ?_
              refine u_st rfl (fun _ => rfl) ?_
              refine u_st rfl (fun _ => rfl) ?_
              show u_P L xs m d m_X12_nursesGo 113 [(2, .int (f_X12_falling (S 125 x1.toInt.toNat) x1 S)), (0, .ref 100), (1, .int x1)] [.int (((g_X12_draw (g_X12_falling (S 125 x1.toInt.toNat) x1 S)) 99 73) + (Int32.ofInt 1)), .ref 100] (z_s (g_X12_draw (g_X12_falling (S 125 x1.toInt.toNat) x1 S)) 131 (((g_X12_draw (g_X12_falling (S 125 x1.toInt.toNat) x1 S)) 125 x1.toInt.toNat).toInt.toNat) (((g_X12_draw (g_X12_falling (S 125 x1.toInt.toNat) x1 S)) 130 (((g_X12_draw (g_X12_falling (S 125 x1.toInt.toNat) x1 S)) 125 x1.toInt.toNat).toInt.toNat)) + (Int32.ofInt 1))) R _
              refine u_put rfl v_tyM rfl ?_
              refine u_st rfl (fun _ => rfl) ?_
              refine u_st rfl (fun _ => rfl) ?_
              refine u_lc (b := [(0, .ref 100), (1, .int (x1 + (Int32.ofInt 1))), (2, .int (f_X12_falling (S 125 x1.toInt.toNat) x1 S))]) (show ([1, 2, 0] : List Nat).Nodup by decide) (show ([0, 1, 2] : List Nat).Nodup by decide) (fun i => match i with | 0 => rfl | 1 => rfl | 2 => rfl | _ + 3 => rfl) ?_
              exact (ih m hm).2.2 d (f_X12_falling (S 125 x1.toInt.toNat) x1 S) (x1 + (Int32.ofInt 1)) (z_s (z_s (g_X12_draw (g_X12_falling (S 125 x1.toInt.toNat) x1 S)) 131 (((g_X12_draw (g_X12_falling (S 125 x1.toInt.toNat) x1 S)) 125 x1.toInt.toNat).toInt.toNat) (((g_X12_draw (g_X12_falling (S 125 x1.toInt.toNat) x1 S)) 130 (((g_X12_draw (g_X12_falling (S 125 x1.toInt.toNat) x1 S)) 125 x1.toInt.toNat).toInt.toNat)) + (Int32.ofInt 1))) 99 73 (((g_X12_draw (g_X12_falling (S 125 x1.toInt.toNat) x1 S)) 99 73) + (Int32.ofInt 1))) hD
            · have hD := hD.2 h5
              show u_P L xs m d m_X12_nursesGo 79 [(2, .int (f_X12_falling (S 125 x1.toInt.toNat) x1 S)), (0, .ref 100), (1, .int x1)] [] (g_X12_draw (g_X12_falling (S 125 x1.toInt.toNat) x1 S)) R _
              refine u_st rfl (fun _ => rfl) ?_
              refine u_st rfl (fun _ => rfl) ?_
              refine u_st rfl (fun _ => rfl) ?_
              refine u_lc (b := [(0, .ref 100), (1, .int (x1 + (Int32.ofInt 1))), (2, .int (f_X12_falling (S 125 x1.toInt.toNat) x1 S))]) (show ([1, 2, 0] : List Nat).Nodup by decide) (show ([0, 1, 2] : List Nat).Nodup by decide) (fun i => match i with | 0 => rfl | 1 => rfl | 2 => rfl | _ + 3 => rfl) ?_
              exact (ih m hm).2.2 d (f_X12_falling (S 125 x1.toInt.toNat) x1 S) (x1 + (Int32.ofInt 1)) (g_X12_draw (g_X12_falling (S 125 x1.toInt.toNat) x1 S)) hD
          · have hD := hD.2 h3
            show u_P L xs m d m_X12_nursesGo 56 [(0, .ref 100), (1, .int x1)] [] S R _
            refine u_st rfl (fun _ => rfl) ?_
            refine u_st rfl (fun _ => rfl) ?_
            refine u_st rfl (fun _ => rfl) ?_
            refine u_lc (b := [(0, .ref 100), (1, .int (x1 + (Int32.ofInt 1)))]) (show ([1, 0] : List Nat).Nodup by decide) (show ([0, 1] : List Nat).Nodup by decide) (fun i => match i with | 0 => rfl | 1 => rfl | _ + 2 => rfl) ?_
            exact (ih m hm).2.1 d (x1 + (Int32.ofInt 1)) S hD
    · intro d j2 x1 S hD
      have hD := k34 x1 S hD
      unfold D_X12_nursesGo_34 at hD
      show u_P L xs n d m_X12_nursesGo 34 [(0, .ref 100), (1, .int x1), (2, .int j2)] [] S R _
      refine u_st1 rfl (fun _ => rfl) (fun m hm => ?_)
      refine u_st rfl (fun _ => rfl) ?_
      show u_P L xs m d m_X12_nursesGo 37 [(0, .ref 100), (1, .int x1), (2, .int j2)] [.int (Int32.ofInt 6), .int x1] S R _
      refine u_ic_ge rfl (fun h1 => ?_) (fun h1 => ?_)
      · have hD := hD.1 h1
        show u_P L xs m d m_X12_nursesGo 122 [(0, .ref 100), (1, .int x1), (2, .int j2)] [] S R _
        exact u_ret rfl rfl ⟨rfl, rfl, hD⟩
      · have hD := hD.2 h1
        show u_P L xs m d m_X12_nursesGo 40 [(0, .ref 100), (1, .int x1), (2, .int j2)] [] S R _
        refine u_st rfl (fun _ => rfl) ?_
        refine u_st rfl (fun _ => rfl) ?_
        show u_P L xs m d m_X12_nursesGo 42 [(0, .ref 100), (1, .int x1), (2, .int j2)] [.int x1, .ref 100] S R _
        refine u_cv (rest := []) rfl (by decide) mt_X12_isWell v_tyM rfl rfl rfl (Nat.le_of_ble_eq_true rfl) (Nat.le_of_ble_eq_true rfl) (Nat.le_of_ble_eq_true rfl) (fun d' => c_X12_isWell L xs m d' x1 S R) ?_
        rintro _ _ _ ⟨_, rfl, rfl, rfl, rfl⟩
        show u_P L xs m d m_X12_nursesGo 45 [(0, .ref 100), (1, .int x1), (2, .int j2)] [.int (f_X12_isWell x1 S)] S R _
        refine u_if_eq rfl (fun h2 => ?_) (fun h2 => ?_)
        · have hD := hD.1 h2
          show u_P L xs m d m_X12_nursesGo 116 [(0, .ref 100), (1, .int x1), (2, .int j2)] [] S R _
          refine u_st rfl (fun _ => rfl) ?_
          refine u_st rfl (fun _ => rfl) ?_
          refine u_lc (b := [(0, .ref 100), (1, .int (x1 + (Int32.ofInt 1))), (2, .int j2)]) (show ([1, 0, 2] : List Nat).Nodup by decide) (show ([0, 1, 2] : List Nat).Nodup by decide) (fun i => match i with | 0 => rfl | 1 => rfl | 2 => rfl | _ + 3 => rfl) ?_
          exact (ih m hm).2.2 d j2 (x1 + (Int32.ofInt 1)) S hD
        · have hD := hD.2 h2
          show u_P L xs m d m_X12_nursesGo 48 [(0, .ref 100), (1, .int x1), (2, .int j2)] [] S R _
          refine u_st rfl (fun _ => rfl) ?_
          refine u_st rfl (fun _ => rfl) ?_
          show u_P L xs m d m_X12_nursesGo 50 [(0, .ref 100), (1, .int x1), (2, .int j2)] [.int x1, .ref 100] S R _
          refine u_cv (rest := []) rfl (by decide) mt_X12_manyIn v_tyM rfl rfl rfl (Nat.le_of_ble_eq_true rfl) (Nat.le_of_ble_eq_true rfl) (Nat.le_of_ble_eq_true rfl) (fun d' => c_X12_manyIn L xs m d' x1 S R) ?_
          rintro _ _ _ ⟨_, rfl, rfl, rfl, rfl⟩
          show u_P L xs m d m_X12_nursesGo 53 [(0, .ref 100), (1, .int x1), (2, .int j2)] [.int (f_X12_manyIn x1 S)] S R _
          refine u_if_ne rfl (fun h3 => ?_) (fun h3 => ?_)
          · have hD := hD.1 h3
            show u_P L xs m d m_X12_nursesGo 59 [(0, .ref 100), (1, .int x1), (2, .int j2)] [] S R _
            refine u_st rfl (fun _ => rfl) ?_
            refine u_st rfl (fun _ => rfl) ?_
            show u_P L xs m d m_X12_nursesGo 61 [(0, .ref 100), (1, .int x1), (2, .int j2)] [.ref 100, .ref 100] S R _
            refine u_getr rfl v_tyM rfl ?_
            refine u_st rfl (fun _ => rfl) ?_
            show u_P L xs m d m_X12_nursesGo 65 [(0, .ref 100), (1, .int x1), (2, .int j2)] [.int x1, .ref 126, .ref 100] S R _
            refine u_ialdE (v := S 125 x1.toInt.toNat) rfl rfl rfl (fun b41 b42 => ?_)
            have hD := hD b41 b42
            show u_P L xs m d m_X12_nursesGo 66 [(0, .ref 100), (1, .int x1), (2, .int j2)] [.int (S 125 x1.toInt.toNat), .ref 100] S R _
            refine u_st rfl (fun _ => rfl) ?_
            show u_P L xs m d m_X12_nursesGo 67 [(0, .ref 100), (1, .int x1), (2, .int j2)] [.int x1, .int (S 125 x1.toInt.toNat), .ref 100] S R _
            refine u_cv (rest := []) rfl (by decide) mt_X12_falling v_tyM rfl rfl rfl (Nat.le_of_ble_eq_true rfl) (Nat.le_of_ble_eq_true rfl) (Nat.le_of_ble_eq_true rfl) (fun d' => c_X12_falling L xs m d' (S 125 x1.toInt.toNat) x1 S R) ?_
            rintro _ _ _ ⟨_, rfl, rfl, rfl, rfl⟩
            refine u_st rfl (fun _ => rfl) ?_
            refine u_st rfl (fun _ => rfl) ?_
            show u_P L xs m d m_X12_nursesGo 72 [(2, .int (f_X12_falling (S 125 x1.toInt.toNat) x1 S)), (0, .ref 100), (1, .int x1)] [.ref 100] (g_X12_falling (S 125 x1.toInt.toNat) x1 S) R _
            refine u_cv (rest := []) rfl (by decide) mt_X12_draw v_tyM rfl rfl rfl (Nat.le_of_ble_eq_true rfl) (Nat.le_of_ble_eq_true rfl) (Nat.le_of_ble_eq_true rfl) (fun d' => c_X12_draw L xs m d' (g_X12_falling (S 125 x1.toInt.toNat) x1 S) R) ?_
            rintro _ _ _ ⟨_, rfl, rfl, rfl, rfl⟩
            refine u_st rfl (fun _ => rfl) ?_
            show u_P L xs m d m_X12_nursesGo 76 [(2, .int (f_X12_falling (S 125 x1.toInt.toNat) x1 S)), (0, .ref 100), (1, .int x1)] [.int (f_X12_falling (S 125 x1.toInt.toNat) x1 S), .int (f_X12_draw (g_X12_falling (S 125 x1.toInt.toNat) x1 S))] (g_X12_draw (g_X12_falling (S 125 x1.toInt.toNat) x1 S)) R _
            refine u_ic_lt rfl (fun h5 => ?_) (fun h5 => ?_)
            · have hD := hD.1 h5
              show u_P L xs m d m_X12_nursesGo 82 [(2, .int (f_X12_falling (S 125 x1.toInt.toNat) x1 S)), (0, .ref 100), (1, .int x1)] [] (g_X12_draw (g_X12_falling (S 125 x1.toInt.toNat) x1 S)) R _
              refine u_st rfl (fun _ => rfl) ?_
              show u_P L xs m d m_X12_nursesGo 83 [(2, .int (f_X12_falling (S 125 x1.toInt.toNat) x1 S)), (0, .ref 100), (1, .int x1)] [.ref 100] (g_X12_draw (g_X12_falling (S 125 x1.toInt.toNat) x1 S)) R _
              refine u_getr rfl v_tyM rfl ?_
              refine u_st rfl (fun _ => rfl) ?_
              show u_P L xs m d m_X12_nursesGo 87 [(2, .int (f_X12_falling (S 125 x1.toInt.toNat) x1 S)), (0, .ref 100), (1, .int x1)] [.ref 100, .ref 132] (g_X12_draw (g_X12_falling (S 125 x1.toInt.toNat) x1 S)) R _
              refine u_getr rfl v_tyM rfl ?_
              refine u_st rfl (fun _ => rfl) ?_
              show u_P L xs m d m_X12_nursesGo 91 [(2, .int (f_X12_falling (S 125 x1.toInt.toNat) x1 S)), (0, .ref 100), (1, .int x1)] [.int x1, .ref 126, .ref 132] (g_X12_draw (g_X12_falling (S 125 x1.toInt.toNat) x1 S)) R _
              refine u_ialdE (v := (g_X12_draw (g_X12_falling (S 125 x1.toInt.toNat) x1 S)) 125 x1.toInt.toNat) rfl rfl rfl (fun b61 b62 => ?_)
              have hD := hD b61 b62
              show u_P L xs m d m_X12_nursesGo 92 [(2, .int (f_X12_falling (S 125 x1.toInt.toNat) x1 S)), (0, .ref 100), (1, .int x1)] [.int ((g_X12_draw (g_X12_falling (S 125 x1.toInt.toNat) x1 S)) 125 x1.toInt.toNat), .ref 132] (g_X12_draw (g_X12_falling (S 125 x1.toInt.toNat) x1 S)) R _
              refine u_st rfl (fun _ => rfl) ?_
              show u_P L xs m d m_X12_nursesGo 93 [(2, .int (f_X12_falling (S 125 x1.toInt.toNat) x1 S)), (0, .ref 100), (1, .int x1)] [.ref 100, .int ((g_X12_draw (g_X12_falling (S 125 x1.toInt.toNat) x1 S)) 125 x1.toInt.toNat), .ref 132] (g_X12_draw (g_X12_falling (S 125 x1.toInt.toNat) x1 S)) R _
              refine u_getr rfl v_tyM rfl ?_
              refine u_st rfl (fun _ => rfl) ?_
              show u_P L xs m d m_X12_nursesGo 97 [(2, .int (f_X12_falling (S 125 x1.toInt.toNat) x1 S)), (0, .ref 100), (1, .int x1)] [.ref 100, .ref 131, .int ((g_X12_draw (g_X12_falling (S 125 x1.toInt.toNat) x1 S)) 125 x1.toInt.toNat), .ref 132] (g_X12_draw (g_X12_falling (S 125 x1.toInt.toNat) x1 S)) R _
              refine u_getr rfl v_tyM rfl ?_
              refine u_st rfl (fun _ => rfl) ?_
              show u_P L xs m d m_X12_nursesGo 101 [(2, .int (f_X12_falling (S 125 x1.toInt.toNat) x1 S)), (0, .ref 100), (1, .int x1)] [.int x1, .ref 126, .ref 131, .int ((g_X12_draw (g_X12_falling (S 125 x1.toInt.toNat) x1 S)) 125 x1.toInt.toNat), .ref 132] (g_X12_draw (g_X12_falling (S 125 x1.toInt.toNat) x1 S)) R _
              refine u_ialdE (v := (g_X12_draw (g_X12_falling (S 125 x1.toInt.toNat) x1 S)) 125 x1.toInt.toNat) rfl rfl rfl (fun b71 b72 => ?_)
              have hD := hD b71 b72
              show u_P L xs m d m_X12_nursesGo 102 [(2, .int (f_X12_falling (S 125 x1.toInt.toNat) x1 S)), (0, .ref 100), (1, .int x1)] [.int ((g_X12_draw (g_X12_falling (S 125 x1.toInt.toNat) x1 S)) 125 x1.toInt.toNat), .ref 131, .int ((g_X12_draw (g_X12_falling (S 125 x1.toInt.toNat) x1 S)) 125 x1.toInt.toNat), .ref 132] (g_X12_draw (g_X12_falling (S 125 x1.toInt.toNat) x1 S)) R _
              refine u_ialdE (v := (g_X12_draw (g_X12_falling (S 125 x1.toInt.toNat) x1 S)) 130 (((g_X12_draw (g_X12_falling (S 125 x1.toInt.toNat) x1 S)) 125 x1.toInt.toNat).toInt.toNat)) rfl rfl rfl (fun b81 b82 => ?_)
              have hD := hD b81 b82
              show u_P L xs m d m_X12_nursesGo 103 [(2, .int (f_X12_falling (S 125 x1.toInt.toNat) x1 S)), (0, .ref 100), (1, .int x1)] [.int ((g_X12_draw (g_X12_falling (S 125 x1.toInt.toNat) x1 S)) 130 (((g_X12_draw (g_X12_falling (S 125 x1.toInt.toNat) x1 S)) 125 x1.toInt.toNat).toInt.toNat)), .int ((g_X12_draw (g_X12_falling (S 125 x1.toInt.toNat) x1 S)) 125 x1.toInt.toNat), .ref 132] (g_X12_draw (g_X12_falling (S 125 x1.toInt.toNat) x1 S)) R _
              refine u_st rfl (fun _ => rfl) ?_
              refine u_st rfl (fun _ => rfl) ?_
              show u_P L xs m d m_X12_nursesGo 105 [(2, .int (f_X12_falling (S 125 x1.toInt.toNat) x1 S)), (0, .ref 100), (1, .int x1)] [.int (((g_X12_draw (g_X12_falling (S 125 x1.toInt.toNat) x1 S)) 130 (((g_X12_draw (g_X12_falling (S 125 x1.toInt.toNat) x1 S)) 125 x1.toInt.toNat).toInt.toNat)) + (Int32.ofInt 1)), .int ((g_X12_draw (g_X12_falling (S 125 x1.toInt.toNat) x1 S)) 125 x1.toInt.toNat), .ref 132] (g_X12_draw (g_X12_falling (S 125 x1.toInt.toNat) x1 S)) R _
              refine u_iast rfl rfl (fun b91 b92 => ?_)
              have hD := hD b91 b92
              show u_P L xs m d m_X12_nursesGo 106 [(2, .int (f_X12_falling (S 125 x1.toInt.toNat) x1 S)), (0, .ref 100), (1, .int x1)] [] (z_s (g_X12_draw (g_X12_falling (S 125 x1.toInt.toNat) x1 S)) 131 (((g_X12_draw (g_X12_falling (S 125 x1.toInt.toNat) x1 S)) 125 x1.toInt.toNat).toInt.toNat) (((g_X12_draw (g_X12_falling (S 125 x1.toInt.toNat) x1 S)) 130 (((g_X12_draw (g_X12_falling (S 125 x1.toInt.toNat) x1 S)) 125 x1.toInt.toNat).toInt.toNat)) + (Int32.ofInt 1))) R _
              refine u_st rfl (fun _ => rfl) ?_
              refine u_st rfl (fun _ => rfl) ?_
              show u_P L xs m d m_X12_nursesGo 108 [(2, .int (f_X12_falling (S 125 x1.toInt.toNat) x1 S)), (0, .ref 100), (1, .int x1)] [.ref 100, .ref 100] (z_s (g_X12_draw (g_X12_falling (S 125 x1.toInt.toNat) x1 S)) 131 (((g_X12_draw (g_X12_falling (S 125 x1.toInt.toNat) x1 S)) 125 x1.toInt.toNat).toInt.toNat) (((g_X12_draw (g_X12_falling (S 125 x1.toInt.toNat) x1 S)) 130 (((g_X12_draw (g_X12_falling (S 125 x1.toInt.toNat) x1 S)) 125 x1.toInt.toNat).toInt.toNat)) + (Int32.ofInt 1))) R _
              refine u_getE (v := (g_X12_draw (g_X12_falling (S 125 x1.toInt.toNat) x1 S)) 99 73) rfl v_tyM rfl (z_sn (fun h => absurd h.1 (by decide))) ?_
              refine u_st rfl (fun _ => rfl) ?_
              refine u_st rfl (fun _ => rfl) ?_
              show u_P L xs m d m_X12_nursesGo 113 [(2, .int (f_X12_falling (S 125 x1.toInt.toNat) x1 S)), (0, .ref 100), (1, .int x1)] [.int (((g_X12_draw (g_X12_falling (S 125 x1.toInt.toNat) x1 S)) 99 73) + (Int32.ofInt 1)), .ref 100] (z_s (g_X12_draw (g_X12_falling (S 125 x1.toInt.toNat) x1 S)) 131 (((g_X12_draw (g_X12_falling (S 125 x1.toInt.toNat) x1 S)) 125 x1.toInt.toNat).toInt.toNat) (((g_X12_draw (g_X12_falling (S 125 x1.toInt.toNat) x1 S)) 130 (((g_X12_draw (g_X12_falling (S 125 x1.toInt.toNat) x1 S)) 125 x1.toInt.toNat).toInt.toNat)) + (Int32.ofInt 1))) R _
              refine u_put rfl v_tyM rfl ?_
              refine u_st rfl (fun _ => rfl) ?_
              refine u_st rfl (fun _ => rfl) ?_
              refine u_lc (b := [(0, .ref 100), (1, .int (x1 + (Int32.ofInt 1))), (2, .int (f_X12_falling (S 125 x1.toInt.toNat) x1 S))]) (show ([1, 2, 0] : List Nat).Nodup by decide) (show ([0, 1, 2] : List Nat).Nodup by decide) (fun i => match i with | 0 => rfl | 1 => rfl | 2 => rfl | _ + 3 => rfl) ?_
              exact (ih m hm).2.2 d (f_X12_falling (S 125 x1.toInt.toNat) x1 S) (x1 + (Int32.ofInt 1)) (z_s (z_s (g_X12_draw (g_X12_falling (S 125 x1.toInt.toNat) x1 S)) 131 (((g_X12_draw (g_X12_falling (S 125 x1.toInt.toNat) x1 S)) 125 x1.toInt.toNat).toInt.toNat) (((g_X12_draw (g_X12_falling (S 125 x1.toInt.toNat) x1 S)) 130 (((g_X12_draw (g_X12_falling (S 125 x1.toInt.toNat) x1 S)) 125 x1.toInt.toNat).toInt.toNat)) + (Int32.ofInt 1))) 99 73 (((g_X12_draw (g_X12_falling (S 125 x1.toInt.toNat) x1 S)) 99 73) + (Int32.ofInt 1))) hD
            · have hD := hD.2 h5
              show u_P L xs m d m_X12_nursesGo 79 [(2, .int (f_X12_falling (S 125 x1.toInt.toNat) x1 S)), (0, .ref 100), (1, .int x1)] [] (g_X12_draw (g_X12_falling (S 125 x1.toInt.toNat) x1 S)) R _
              refine u_st rfl (fun _ => rfl) ?_
              refine u_st rfl (fun _ => rfl) ?_
              refine u_st rfl (fun _ => rfl) ?_
              refine u_lc (b := [(0, .ref 100), (1, .int (x1 + (Int32.ofInt 1))), (2, .int (f_X12_falling (S 125 x1.toInt.toNat) x1 S))]) (show ([1, 2, 0] : List Nat).Nodup by decide) (show ([0, 1, 2] : List Nat).Nodup by decide) (fun i => match i with | 0 => rfl | 1 => rfl | 2 => rfl | _ + 3 => rfl) ?_
              exact (ih m hm).2.2 d (f_X12_falling (S 125 x1.toInt.toNat) x1 S) (x1 + (Int32.ofInt 1)) (g_X12_draw (g_X12_falling (S 125 x1.toInt.toNat) x1 S)) hD
          · have hD := hD.2 h3
            show u_P L xs m d m_X12_nursesGo 56 [(0, .ref 100), (1, .int x1), (2, .int j2)] [] S R _
            refine u_st rfl (fun _ => rfl) ?_
            refine u_st rfl (fun _ => rfl) ?_
            refine u_st rfl (fun _ => rfl) ?_
            refine u_lc (b := [(0, .ref 100), (1, .int (x1 + (Int32.ofInt 1))), (2, .int j2)]) (show ([1, 0, 2] : List Nat).Nodup by decide) (show ([0, 1, 2] : List Nat).Nodup by decide) (fun i => match i with | 0 => rfl | 1 => rfl | 2 => rfl | _ + 3 => rfl) ?_
            exact (ih m hm).2.2 d j2 (x1 + (Int32.ofInt 1)) S hD
set_option maxRecDepth 4000 in
theorem w_X12_nursesGo (L : Nat) (xs : Nat → Int32) {R : v_Rf}  (H2 : Int32 → v_Sf → Prop) (H34 : Int32 → v_Sf → Prop) (K : v_Sf → Prop) (k2 : ∀ (x1 : Int32) (S : v_Sf), H2 x1 S → D_X12_nursesGo_2 H2 H34 K x1 S) (k34 : ∀ (x1 : Int32) (S : v_Sf), H34 x1 S → D_X12_nursesGo_34 H2 H34 K x1 S) (n d : Nat) (S : v_Sf) (hD : D_X12_nursesGo H2 H34 K S) : u_P L xs n d m_X12_nursesGo 0 (lv_args 0 [.ref 100]) [] S R (z_V R K) := by
  unfold D_X12_nursesGo at hD
  show u_P L xs n d m_X12_nursesGo 0 [(0, .ref 100)] [] S R _
  refine u_st rfl (fun _ => rfl) ?_
  refine u_st rfl (fun _ => rfl) ?_
  refine u_lc (b := [(0, .ref 100), (1, .int (Int32.ofInt 0))]) (show ([1, 0] : List Nat).Nodup by decide) (show ([0, 1] : List Nat).Nodup by decide) (fun i => match i with | 0 => rfl | 1 => rfl | _ + 2 => rfl) ?_
  exact (hd_X12_nursesGo L xs H2 H34 K k2 k34 n).1 d (Int32.ofInt 0) S hD
noncomputable def r_X12_nursesGo_34  : Nat → Nat → v_Sf → v_Sf
  | 0, k34, S => S
  | r + 1, k34, S => (if (f_X12_isWell (z_i k34) S) = 0 then r_X12_nursesGo_34 r (k34 + 1) S else (if ¬ (f_X12_manyIn (z_i k34) S) = 0 then (if (f_X12_draw (g_X12_falling (S 125 (z_i k34).toInt.toNat) (z_i k34) S)) < (f_X12_falling (S 125 (z_i k34).toInt.toNat) (z_i k34) S) then r_X12_nursesGo_34 r (k34 + 1) (z_s (z_s (g_X12_draw (g_X12_falling (S 125 (z_i k34).toInt.toNat) (z_i k34) S)) 131 (((g_X12_draw (g_X12_falling (S 125 (z_i k34).toInt.toNat) (z_i k34) S)) 125 (z_i k34).toInt.toNat).toInt.toNat) (((g_X12_draw (g_X12_falling (S 125 (z_i k34).toInt.toNat) (z_i k34) S)) 130 (((g_X12_draw (g_X12_falling (S 125 (z_i k34).toInt.toNat) (z_i k34) S)) 125 (z_i k34).toInt.toNat).toInt.toNat)) + (Int32.ofInt 1))) 99 73 (((g_X12_draw (g_X12_falling (S 125 (z_i k34).toInt.toNat) (z_i k34) S)) 99 73) + (Int32.ofInt 1))) else r_X12_nursesGo_34 r (k34 + 1) (g_X12_draw (g_X12_falling (S 125 (z_i k34).toInt.toNat) (z_i k34) S))) else r_X12_nursesGo_34 r (k34 + 1) S))
noncomputable def r_X12_nursesGo_2  : Nat → Nat → v_Sf → v_Sf
  | 0, k2, S => r_X12_nursesGo_34 (6 - 0) 0 S
  | r + 1, k2, S => (if (S 131 (z_i k2).toInt.toNat) ≤ 0 then r_X12_nursesGo_2 r (k2 + 1) S else r_X12_nursesGo_2 r (k2 + 1) (z_s S 131 (z_i k2).toInt.toNat ((S 131 (z_i k2).toInt.toNat) - (Int32.ofInt 1))))
noncomputable def F_X12_nursesGo  (S : v_Sf) : v_Sf := r_X12_nursesGo_2 (5 - 0) 0 S
noncomputable def g_X12_nursesGo  (S : v_Sf) : v_Sf := F_X12_nursesGo  S
theorem c_X12_nursesGo (L : Nat) (xs : Nat → Int32) (n d : Nat)  (S : v_Sf) (R : v_Rf) : u_P L xs n d m_X12_nursesGo 0 (lv_args 0 [.ref 100]) [] S R (z_V R (fun S1 => g_X12_nursesGo  S = S1)) := by
  refine w_X12_nursesGo L xs  (fun y1 T => ∃ (k2 : Nat), k2 ≤ 5 ∧ z_i k2 = y1 ∧ r_X12_nursesGo_2 (5 - k2) k2 T = F_X12_nursesGo  S) (fun y1 T => ∃ (k34 : Nat), k34 ≤ 6 ∧ z_i k34 = y1 ∧ r_X12_nursesGo_34 (6 - k34) k34 T = F_X12_nursesGo  S) (fun S1 => g_X12_nursesGo  S = S1) ?_ ?_ n d S ?_
  · rintro _ S1 ⟨k2, hkk, rfl, e⟩
    unfold D_X12_nursesGo_2
    rcases Nat.lt_or_ge k2 (5) with hk | hk
    · rw [show 5 - k2 = (5 - (k2 + 1)) + 1 by omega, r_X12_nursesGo_2] at e
      refine ⟨fun q1 => ?_, fun q1 => ?_⟩
      · exact absurd hk (Nat.not_lt.mpr (z_leB2 (B := 5) q1 (by decide) (by omega)))
      · intro _ _
        refine ⟨fun q2 => ?_, fun q2 => ?_⟩
        · rw [if_pos q2] at e
          exact ⟨(k2 + 1), by omega, (z_i1 k2).symm, e⟩
        · intro _ _
          intro _ _
          rw [if_neg q2] at e
          exact ⟨(k2 + 1), by omega, (z_i1 k2).symm, e⟩
    · rw [show 5 - k2 = 0 by omega, r_X12_nursesGo_2] at e
      refine ⟨fun q3 => ?_, fun q3 => ?_⟩
      · exact ⟨0, by omega, rfl, e⟩
      · exact absurd hk (Nat.not_le.mpr (z_ltB2 (B := 5) q3 (by decide) (by omega)))
  · rintro _ S1 ⟨k34, hkk, rfl, e⟩
    unfold D_X12_nursesGo_34
    rcases Nat.lt_or_ge k34 (6) with hk | hk
    · rw [show 6 - k34 = (6 - (k34 + 1)) + 1 by omega, r_X12_nursesGo_34] at e
      refine ⟨fun q4 => ?_, fun q4 => ?_⟩
      · exact absurd hk (Nat.not_lt.mpr (z_leB2 (B := 6) q4 (by decide) (by omega)))
      · refine ⟨fun q5 => ?_, fun q5 => ?_⟩
        · rw [if_pos q5] at e
          exact ⟨(k34 + 1), by omega, (z_i1 k34).symm, e⟩
        · refine ⟨fun q6 => ?_, fun q6 => ?_⟩
          · intro _ _
            refine ⟨fun q7 => ?_, fun q7 => ?_⟩
            · intro _ _
              intro _ _
              intro _ _
              intro _ _
              rw [if_neg q5, if_pos q6, if_pos q7] at e
              exact ⟨(k34 + 1), by omega, (z_i1 k34).symm, e⟩
            · rw [if_neg q5, if_pos q6, if_neg q7] at e
              exact ⟨(k34 + 1), by omega, (z_i1 k34).symm, e⟩
          · rw [if_neg q5, if_neg q6] at e
            exact ⟨(k34 + 1), by omega, (z_i1 k34).symm, e⟩
    · rw [show 6 - k34 = 0 by omega, r_X12_nursesGo_34] at e
      refine ⟨fun q8 => ?_, fun q8 => ?_⟩
      · exact e.symm
      · exact absurd hk (Nat.not_le.mpr (z_ltB2 (B := 6) q8 (by decide) (by omega)))
  · unfold D_X12_nursesGo
    have e : r_X12_nursesGo_2 (5 - 0) 0 S = F_X12_nursesGo  S := by rw [F_X12_nursesGo]
    exact ⟨0, by omega, rfl, e⟩
noncomputable abbrev m_X12_judges : g_M := (g_cn 12, yX12_judges, cX12_judges, 3, none, g_look2 ttX12_judges)
set_option maxRecDepth 20000 in
theorem mt_X12_judges : g_mt 236 = some m_X12_judges := rfl
noncomputable def D_X12_judges_2  (H2 : Int32 → v_Sf → Prop) (H12 : Int32 → Int32 → v_Sf → Prop) (K : v_Sf → Prop) (x1 : Int32) (S : v_Sf) : Prop := (((S 99 17) ≤ x1 → K S) ∧ (¬ ((S 99 17) ≤ x1) → H12 x1 (Int32.ofInt 0) S))
noncomputable def D_X12_judges_12  (H2 : Int32 → v_Sf → Prop) (H12 : Int32 → Int32 → v_Sf → Prop) (K : v_Sf → Prop) (x1 : Int32) (x2 : Int32) (S : v_Sf) : Prop := (((Int32.ofInt 6) ≤ x2 → H2 (x1 + (Int32.ofInt 1)) S) ∧ (¬ ((Int32.ofInt 6) ≤ x2) → (0 ≤ ((Int32.ofInt 16) + x1).toInt → ((Int32.ofInt 16) + x1).toInt < 28 → (((f_X12_isKeptBy x1 x2 S) = 0 → (((¬ ((g_X12_isKeptBy x1 x2 S) 99 74) = 0) → K (z_s (g_X12_isKeptBy x1 x2 S) 99 74 (((g_X12_isKeptBy x1 x2 S) 99 74) + (Int32.ofInt 1)))) ∧ (¬ (¬ ((g_X12_isKeptBy x1 x2 S) 99 74) = 0) → K (z_s (z_s (z_s (g_X12_isKeptBy x1 x2 S) 99 75 x1) 99 76 x2) 99 74 (((g_X12_isKeptBy x1 x2 S) 99 74) + (Int32.ofInt 1)))))) ∧ (¬ ((f_X12_isKeptBy x1 x2 S) = 0) → H12 x1 (x2 + (Int32.ofInt 1)) (g_X12_isKeptBy x1 x2 S))))))
noncomputable def D_X12_judges  (H2 : Int32 → v_Sf → Prop) (H12 : Int32 → Int32 → v_Sf → Prop) (K : v_Sf → Prop) (S : v_Sf) : Prop := H2 (Int32.ofInt 0) S
set_option maxRecDepth 4000 in
theorem hd_X12_judges (L : Nat) (xs : Nat → Int32) {R : v_Rf}  (H2 : Int32 → v_Sf → Prop) (H12 : Int32 → Int32 → v_Sf → Prop) (K : v_Sf → Prop) (k2 : ∀ (x1 : Int32) (S : v_Sf), H2 x1 S → D_X12_judges_2 H2 H12 K x1 S) (k12 : ∀ (x1 : Int32) (x2 : Int32) (S : v_Sf), H12 x1 x2 S → D_X12_judges_12 H2 H12 K x1 x2 S) : ∀ n, (∀ (d : Nat) (x1 : Int32) (S : v_Sf), H2 x1 S → u_P L xs n d m_X12_judges 2 [(0, .ref 100), (1, .int x1)] [] S R (z_V R K)) ∧ (∀ (d : Nat) (j2 : Int32) (x1 : Int32) (S : v_Sf), H2 x1 S → u_P L xs n d m_X12_judges 2 [(0, .ref 100), (1, .int x1), (2, .int j2)] [] S R (z_V R K)) ∧ (∀ (d : Nat) (x1 : Int32) (x2 : Int32) (S : v_Sf), H12 x1 x2 S → u_P L xs n d m_X12_judges 12 [(0, .ref 100), (1, .int x1), (2, .int x2)] [] S R (z_V R K)) := by
  intro n
  induction n using Nat.strongRecOn with
  | ind n ih =>
    refine ⟨?_, ?_, ?_⟩
    · intro d x1 S hD
      have hD := k2 x1 S hD
      unfold D_X12_judges_2 at hD
      show u_P L xs n d m_X12_judges 2 [(0, .ref 100), (1, .int x1)] [] S R _
      refine u_st1 rfl (fun _ => rfl) (fun m hm => ?_)
      refine u_st rfl (fun _ => rfl) ?_
      show u_P L xs m d m_X12_judges 4 [(0, .ref 100), (1, .int x1)] [.ref 100, .int x1] S R _
      refine u_getE (v := S 99 17) rfl v_tyM rfl rfl ?_
      show u_P L xs m d m_X12_judges 7 [(0, .ref 100), (1, .int x1)] [.int (S 99 17), .int x1] S R _
      refine u_ic_ge rfl (fun h1 => ?_) (fun h1 => ?_)
      · have hD := hD.1 h1
        show u_P L xs m d m_X12_judges 70 [(0, .ref 100), (1, .int x1)] [] S R _
        exact u_ret rfl rfl ⟨rfl, rfl, hD⟩
      · have hD := hD.2 h1
        show u_P L xs m d m_X12_judges 10 [(0, .ref 100), (1, .int x1)] [] S R _
        refine u_st rfl (fun _ => rfl) ?_
        refine u_st rfl (fun _ => rfl) ?_
        refine u_lc (b := [(0, .ref 100), (1, .int x1), (2, .int (Int32.ofInt 0))]) (show ([2, 0, 1] : List Nat).Nodup by decide) (show ([0, 1, 2] : List Nat).Nodup by decide) (fun i => match i with | 0 => rfl | 1 => rfl | 2 => rfl | _ + 3 => rfl) ?_
        exact (ih m hm).2.2 d x1 (Int32.ofInt 0) S hD
    · intro d j2 x1 S hD
      have hD := k2 x1 S hD
      unfold D_X12_judges_2 at hD
      show u_P L xs n d m_X12_judges 2 [(0, .ref 100), (1, .int x1), (2, .int j2)] [] S R _
      refine u_st1 rfl (fun _ => rfl) (fun m hm => ?_)
      refine u_st rfl (fun _ => rfl) ?_
      show u_P L xs m d m_X12_judges 4 [(0, .ref 100), (1, .int x1), (2, .int j2)] [.ref 100, .int x1] S R _
      refine u_getE (v := S 99 17) rfl v_tyM rfl rfl ?_
      show u_P L xs m d m_X12_judges 7 [(0, .ref 100), (1, .int x1), (2, .int j2)] [.int (S 99 17), .int x1] S R _
      refine u_ic_ge rfl (fun h1 => ?_) (fun h1 => ?_)
      · have hD := hD.1 h1
        show u_P L xs m d m_X12_judges 70 [(0, .ref 100), (1, .int x1), (2, .int j2)] [] S R _
        exact u_ret rfl rfl ⟨rfl, rfl, hD⟩
      · have hD := hD.2 h1
        show u_P L xs m d m_X12_judges 10 [(0, .ref 100), (1, .int x1), (2, .int j2)] [] S R _
        refine u_st rfl (fun _ => rfl) ?_
        refine u_st rfl (fun _ => rfl) ?_
        refine u_lc (b := [(0, .ref 100), (1, .int x1), (2, .int (Int32.ofInt 0))]) (show ([2, 0, 1] : List Nat).Nodup by decide) (show ([0, 1, 2] : List Nat).Nodup by decide) (fun i => match i with | 0 => rfl | 1 => rfl | 2 => rfl | _ + 3 => rfl) ?_
        exact (ih m hm).2.2 d x1 (Int32.ofInt 0) S hD
    · intro d x1 x2 S hD
      have hD := k12 x1 x2 S hD
      unfold D_X12_judges_12 at hD
      show u_P L xs n d m_X12_judges 12 [(0, .ref 100), (1, .int x1), (2, .int x2)] [] S R _
      refine u_st1 rfl (fun _ => rfl) (fun m hm => ?_)
      refine u_st rfl (fun _ => rfl) ?_
      show u_P L xs m d m_X12_judges 15 [(0, .ref 100), (1, .int x1), (2, .int x2)] [.int (Int32.ofInt 6), .int x2] S R _
      refine u_ic_ge rfl (fun h1 => ?_) (fun h1 => ?_)
      · have hD := hD.1 h1
        show u_P L xs m d m_X12_judges 64 [(0, .ref 100), (1, .int x1), (2, .int x2)] [] S R _
        refine u_st rfl (fun _ => rfl) ?_
        refine u_st rfl (fun _ => rfl) ?_
        refine u_lc (b := [(0, .ref 100), (1, .int (x1 + (Int32.ofInt 1))), (2, .int x2)]) (show ([1, 0, 2] : List Nat).Nodup by decide) (show ([0, 1, 2] : List Nat).Nodup by decide) (fun i => match i with | 0 => rfl | 1 => rfl | 2 => rfl | _ + 3 => rfl) ?_
        exact (ih m hm).2.1 d x2 (x1 + (Int32.ofInt 1)) S hD
      · have hD := hD.2 h1
        show u_P L xs m d m_X12_judges 18 [(0, .ref 100), (1, .int x1), (2, .int x2)] [] S R _
        refine u_st rfl (fun _ => rfl) ?_
        refine u_st rfl (fun _ => rfl) ?_
        refine u_st rfl (fun _ => rfl) ?_
        show u_P L xs m d m_X12_judges 21 [(0, .ref 100), (1, .int x1), (2, .int x2)] [.int x2, .int x1, .ref 100] S R _
        refine u_cv (rest := []) rfl (by decide) mt_X12_isKeptBy v_tyM rfl rfl rfl (Nat.le_of_ble_eq_true rfl) (Nat.le_of_ble_eq_true rfl) (Nat.le_of_ble_eq_true rfl) (fun d' => c_X12_isKeptBy L xs m d' x1 x2 S R) ?_
        rintro _ _ _ ⟨_, rfl, rfl, rfl, rfl, b21, b22⟩
        have hD := hD b21 b22
        show u_P L xs m d m_X12_judges 24 [(0, .ref 100), (1, .int x1), (2, .int x2)] [.int (f_X12_isKeptBy x1 x2 S)] (g_X12_isKeptBy x1 x2 S) R _
        refine u_if_eq rfl (fun h3 => ?_) (fun h3 => ?_)
        · have hD := hD.1 h3
          show u_P L xs m d m_X12_judges 30 [(0, .ref 100), (1, .int x1), (2, .int x2)] [] (g_X12_isKeptBy x1 x2 S) R _
          refine u_st rfl (fun _ => rfl) ?_
          show u_P L xs m d m_X12_judges 31 [(0, .ref 100), (1, .int x1), (2, .int x2)] [.ref 100] (g_X12_isKeptBy x1 x2 S) R _
          refine u_getE (v := (g_X12_isKeptBy x1 x2 S) 99 74) rfl v_tyM rfl rfl ?_
          show u_P L xs m d m_X12_judges 34 [(0, .ref 100), (1, .int x1), (2, .int x2)] [.int ((g_X12_isKeptBy x1 x2 S) 99 74)] (g_X12_isKeptBy x1 x2 S) R _
          refine u_if_ne rfl (fun h4 => ?_) (fun h4 => ?_)
          · have hD := hD.1 h4
            show u_P L xs m d m_X12_judges 47 [(0, .ref 100), (1, .int x1), (2, .int x2)] [] (g_X12_isKeptBy x1 x2 S) R _
            refine u_st rfl (fun _ => rfl) ?_
            refine u_st rfl (fun _ => rfl) ?_
            show u_P L xs m d m_X12_judges 49 [(0, .ref 100), (1, .int x1), (2, .int x2)] [.ref 100, .ref 100] (g_X12_isKeptBy x1 x2 S) R _
            refine u_getE (v := (g_X12_isKeptBy x1 x2 S) 99 74) rfl v_tyM rfl rfl ?_
            refine u_st rfl (fun _ => rfl) ?_
            refine u_st rfl (fun _ => rfl) ?_
            show u_P L xs m d m_X12_judges 54 [(0, .ref 100), (1, .int x1), (2, .int x2)] [.int (((g_X12_isKeptBy x1 x2 S) 99 74) + (Int32.ofInt 1)), .ref 100] (g_X12_isKeptBy x1 x2 S) R _
            refine u_put rfl v_tyM rfl ?_
            show u_P L xs m d m_X12_judges 57 [(0, .ref 100), (1, .int x1), (2, .int x2)] [] (z_s (g_X12_isKeptBy x1 x2 S) 99 74 (((g_X12_isKeptBy x1 x2 S) 99 74) + (Int32.ofInt 1))) R _
            exact u_ret rfl rfl ⟨rfl, rfl, hD⟩
          · have hD := hD.2 h4
            show u_P L xs m d m_X12_judges 37 [(0, .ref 100), (1, .int x1), (2, .int x2)] [] (g_X12_isKeptBy x1 x2 S) R _
            refine u_st rfl (fun _ => rfl) ?_
            refine u_st rfl (fun _ => rfl) ?_
            show u_P L xs m d m_X12_judges 39 [(0, .ref 100), (1, .int x1), (2, .int x2)] [.int x1, .ref 100] (g_X12_isKeptBy x1 x2 S) R _
            refine u_put rfl v_tyM rfl ?_
            refine u_st rfl (fun _ => rfl) ?_
            refine u_st rfl (fun _ => rfl) ?_
            show u_P L xs m d m_X12_judges 44 [(0, .ref 100), (1, .int x1), (2, .int x2)] [.int x2, .ref 100] (z_s (g_X12_isKeptBy x1 x2 S) 99 75 x1) R _
            refine u_put rfl v_tyM rfl ?_
            refine u_st rfl (fun _ => rfl) ?_
            refine u_st rfl (fun _ => rfl) ?_
            show u_P L xs m d m_X12_judges 49 [(0, .ref 100), (1, .int x1), (2, .int x2)] [.ref 100, .ref 100] (z_s (z_s (g_X12_isKeptBy x1 x2 S) 99 75 x1) 99 76 x2) R _
            refine u_getE (v := (g_X12_isKeptBy x1 x2 S) 99 74) rfl v_tyM rfl ((z_sn (fun h => absurd h.2 (by decide))).trans (z_sn (fun h => absurd h.2 (by decide)))) ?_
            refine u_st rfl (fun _ => rfl) ?_
            refine u_st rfl (fun _ => rfl) ?_
            show u_P L xs m d m_X12_judges 54 [(0, .ref 100), (1, .int x1), (2, .int x2)] [.int (((g_X12_isKeptBy x1 x2 S) 99 74) + (Int32.ofInt 1)), .ref 100] (z_s (z_s (g_X12_isKeptBy x1 x2 S) 99 75 x1) 99 76 x2) R _
            refine u_put rfl v_tyM rfl ?_
            show u_P L xs m d m_X12_judges 57 [(0, .ref 100), (1, .int x1), (2, .int x2)] [] (z_s (z_s (z_s (g_X12_isKeptBy x1 x2 S) 99 75 x1) 99 76 x2) 99 74 (((g_X12_isKeptBy x1 x2 S) 99 74) + (Int32.ofInt 1))) R _
            exact u_ret rfl rfl ⟨rfl, rfl, hD⟩
        · have hD := hD.2 h3
          show u_P L xs m d m_X12_judges 27 [(0, .ref 100), (1, .int x1), (2, .int x2)] [] (g_X12_isKeptBy x1 x2 S) R _
          refine u_st rfl (fun _ => rfl) ?_
          refine u_st rfl (fun _ => rfl) ?_
          refine u_st rfl (fun _ => rfl) ?_
          refine u_lc (b := [(0, .ref 100), (1, .int x1), (2, .int (x2 + (Int32.ofInt 1)))]) (show ([2, 0, 1] : List Nat).Nodup by decide) (show ([0, 1, 2] : List Nat).Nodup by decide) (fun i => match i with | 0 => rfl | 1 => rfl | 2 => rfl | _ + 3 => rfl) ?_
          exact (ih m hm).2.2 d x1 (x2 + (Int32.ofInt 1)) (g_X12_isKeptBy x1 x2 S) hD
set_option maxRecDepth 4000 in
theorem w_X12_judges (L : Nat) (xs : Nat → Int32) {R : v_Rf}  (H2 : Int32 → v_Sf → Prop) (H12 : Int32 → Int32 → v_Sf → Prop) (K : v_Sf → Prop) (k2 : ∀ (x1 : Int32) (S : v_Sf), H2 x1 S → D_X12_judges_2 H2 H12 K x1 S) (k12 : ∀ (x1 : Int32) (x2 : Int32) (S : v_Sf), H12 x1 x2 S → D_X12_judges_12 H2 H12 K x1 x2 S) (n d : Nat) (S : v_Sf) (hD : D_X12_judges H2 H12 K S) : u_P L xs n d m_X12_judges 0 (lv_args 0 [.ref 100]) [] S R (z_V R K) := by
  unfold D_X12_judges at hD
  show u_P L xs n d m_X12_judges 0 [(0, .ref 100)] [] S R _
  refine u_st rfl (fun _ => rfl) ?_
  refine u_st rfl (fun _ => rfl) ?_
  refine u_lc (b := [(0, .ref 100), (1, .int (Int32.ofInt 0))]) (show ([1, 0] : List Nat).Nodup by decide) (show ([0, 1] : List Nat).Nodup by decide) (fun i => match i with | 0 => rfl | 1 => rfl | _ + 2 => rfl) ?_
  exact (hd_X12_judges L xs H2 H12 K k2 k12 n).1 d (Int32.ofInt 0) S hD
noncomputable def r_X12_judges_12 (κ2 : v_Sf → v_Sf) (k2 : Nat) : Nat → Nat → v_Sf → v_Sf
  | 0, k12, S => κ2 S
  | r + 1, k12, S => (if (f_X12_isKeptBy (z_i k2) (z_i k12) S) = 0 then (if ¬ ((g_X12_isKeptBy (z_i k2) (z_i k12) S) 99 74) = 0 then z_s (g_X12_isKeptBy (z_i k2) (z_i k12) S) 99 74 (((g_X12_isKeptBy (z_i k2) (z_i k12) S) 99 74) + (Int32.ofInt 1)) else z_s (z_s (z_s (g_X12_isKeptBy (z_i k2) (z_i k12) S) 99 75 (z_i k2)) 99 76 (z_i k12)) 99 74 (((g_X12_isKeptBy (z_i k2) (z_i k12) S) 99 74) + (Int32.ofInt 1))) else r_X12_judges_12 κ2 k2 r (k12 + 1) (g_X12_isKeptBy (z_i k2) (z_i k12) S))
noncomputable def r_X12_judges_2  : Nat → Nat → v_Sf → v_Sf
  | 0, k2, S => S
  | r + 1, k2, S => (if (S 99 17) ≤ (z_i k2) then S else r_X12_judges_12 (fun S => r_X12_judges_2 r (k2 + 1) S) k2 (6 - 0) 0 S)
noncomputable def F_X12_judges  (S : v_Sf) : v_Sf := r_X12_judges_2 (13 - 0) 0 S
noncomputable def g_X12_judges  (S : v_Sf) : v_Sf := F_X12_judges  S
theorem c_X12_judges (L : Nat) (xs : Nat → Int32) (n d : Nat)  (S : v_Sf) (R : v_Rf) : u_P L xs n d m_X12_judges 0 (lv_args 0 [.ref 100]) [] S R (z_V R (fun S1 => g_X12_judges  S = S1)) := by
  refine w_X12_judges L xs  (fun y1 T => ∃ (k2 : Nat), k2 ≤ 12 ∧ z_i k2 = y1 ∧ r_X12_judges_2 (13 - k2) k2 T = F_X12_judges  S) (fun y1 y2 T => ∃ (k2 k12 : Nat), k12 ≤ 6 ∧ z_i k12 = y2 ∧ k2 ≤ 12 ∧ (k12 = 0 ∨ k2 < 12) ∧ z_i k2 = y1 ∧ r_X12_judges_12 (fun V => r_X12_judges_2 (13 - (k2 + 1)) (k2 + 1) V) k2 (6 - k12) k12 T = F_X12_judges  S) (fun S1 => g_X12_judges  S = S1) ?_ ?_ n d S ?_
  · rintro _ S1 ⟨k2, hkk, rfl, e⟩
    unfold D_X12_judges_2
    rcases Nat.lt_or_ge k2 (13) with hk | hk
    · rw [show 13 - k2 = (13 - (k2 + 1)) + 1 by omega, r_X12_judges_2] at e
      refine ⟨fun q1 => ?_, fun q1 => ?_⟩
      · rw [if_pos q1] at e
        exact e.symm
      · rw [if_neg q1] at e
        exact ⟨k2, 0, by omega, rfl, by omega, by omega, rfl, e⟩
    · omega
  · rintro _ _ S1 ⟨k2, k12, hkk, rfl, hk2, hz2, rfl, e⟩
    unfold D_X12_judges_12
    rcases Nat.lt_or_ge k12 (6) with hk | hk
    · rw [show 6 - k12 = (6 - (k12 + 1)) + 1 by omega, r_X12_judges_12] at e
      refine ⟨fun q2 => ?_, fun q2 => ?_⟩
      · exact absurd hk (Nat.not_lt.mpr (z_leB2 (B := 6) q2 (by decide) (by omega)))
      · intro _ hb
        have hf := z_lt12 hb (by omega)
        refine ⟨fun q3 => ?_, fun q3 => ?_⟩
        · refine ⟨fun q4 => ?_, fun q4 => ?_⟩
          · rw [if_pos q3, if_pos q4] at e
            exact e.symm
          · rw [if_pos q3, if_neg q4] at e
            exact e.symm
        · rw [if_neg q3] at e
          exact ⟨k2, (k12 + 1), by omega, (z_i1 k12).symm, by omega, by omega, rfl, e⟩
    · rw [show 6 - k12 = 0 by omega, r_X12_judges_12] at e
      refine ⟨fun q5 => ?_, fun q5 => ?_⟩
      · exact ⟨(k2 + 1), by omega, (z_i1 k2).symm, e⟩
      · exact absurd hk (Nat.not_le.mpr (z_ltB2 (B := 6) q5 (by decide) (by omega)))
  · unfold D_X12_judges
    have e : r_X12_judges_2 (13 - 0) 0 S = F_X12_judges  S := by rw [F_X12_judges]
    exact ⟨0, by omega, rfl, e⟩
noncomputable abbrev m_X12_go : g_M := (g_cn 12, yX12_go, cX12_go, 3, none, g_look2 ttX12_go)
set_option maxRecDepth 20000 in
theorem mt_X12_go : g_mt 237 = some m_X12_go := rfl
noncomputable def D_X12_go_39  (H39 : Int32 → Int32 → v_Sf → Prop) (K : v_Sf → Prop) (x1 : Int32) (x2 : Int32) (S : v_Sf) : Prop := ((x1 ≤ x2 → K S) ∧ (¬ (x1 ≤ x2) → (((Int32.ofInt 9999) ≤ (S 99 60) → K S) ∧ (¬ ((Int32.ofInt 9999) ≤ (S 99 60)) → H39 x1 (x2 + (Int32.ofInt 1)) (z_s (g_X12_judges (g_X12_nursesGo (g_X12_whistle (g_X12_breaks (g_X12_wardsGo (g_X12_weakens S)))))) 99 60 (((g_X12_judges (g_X12_nursesGo (g_X12_whistle (g_X12_breaks (g_X12_wardsGo (g_X12_weakens S)))))) 99 60) + (Int32.ofInt 1)))))))
noncomputable def D_X12_go (a : Int32) (H39 : Int32 → Int32 → v_Sf → Prop) (K : v_Sf → Prop) (S : v_Sf) : Prop := H39 a (Int32.ofInt 0) (z_s (z_s (z_s (z_s (z_s (z_s (z_s S 99 70 (Int32.ofInt 0)) 99 71 (Int32.ofInt 0)) 99 72 (Int32.ofInt 0)) 99 73 (Int32.ofInt 0)) 99 74 (Int32.ofInt 0)) 99 75 (Int32.ofInt (-2))) 99 76 (Int32.ofInt (-2)))
set_option maxRecDepth 4000 in
theorem hd_X12_go (L : Nat) (xs : Nat → Int32) {R : v_Rf} (a : Int32) (H39 : Int32 → Int32 → v_Sf → Prop) (K : v_Sf → Prop) (k39 : ∀ (x1 : Int32) (x2 : Int32) (S : v_Sf), H39 x1 x2 S → D_X12_go_39 H39 K x1 x2 S) : ∀ n, (∀ (d : Nat) (x1 : Int32) (x2 : Int32) (S : v_Sf), H39 x1 x2 S → u_P L xs n d m_X12_go 39 [(0, .ref 100), (1, .int x1), (2, .int x2)] [] S R (z_V R K)) := by
  intro n
  induction n using Nat.strongRecOn with
  | ind n ih =>
    intro d x1 x2 S hD
    have hD := k39 x1 x2 S hD
    unfold D_X12_go_39 at hD
    show u_P L xs n d m_X12_go 39 [(0, .ref 100), (1, .int x1), (2, .int x2)] [] S R _
    refine u_st1 rfl (fun _ => rfl) (fun m hm => ?_)
    refine u_st rfl (fun _ => rfl) ?_
    show u_P L xs m d m_X12_go 41 [(0, .ref 100), (1, .int x1), (2, .int x2)] [.int x1, .int x2] S R _
    refine u_ic_ge rfl (fun h1 => ?_) (fun h1 => ?_)
    · have hD := hD.1 h1
      show u_P L xs m d m_X12_go 94 [(0, .ref 100), (1, .int x1), (2, .int x2)] [] S R _
      exact u_ret rfl rfl ⟨rfl, rfl, hD⟩
    · have hD := hD.2 h1
      show u_P L xs m d m_X12_go 44 [(0, .ref 100), (1, .int x1), (2, .int x2)] [] S R _
      refine u_st rfl (fun _ => rfl) ?_
      show u_P L xs m d m_X12_go 45 [(0, .ref 100), (1, .int x1), (2, .int x2)] [.ref 100] S R _
      refine u_getE (v := S 99 60) rfl v_tyM rfl rfl ?_
      refine u_st rfl (fun _ => rfl) ?_
      show u_P L xs m d m_X12_go 51 [(0, .ref 100), (1, .int x1), (2, .int x2)] [.int (Int32.ofInt 9999), .int (S 99 60)] S R _
      refine u_ic_ge rfl (fun h2 => ?_) (fun h2 => ?_)
      · have hD := hD.1 h2
        show u_P L xs m d m_X12_go 94 [(0, .ref 100), (1, .int x1), (2, .int x2)] [] S R _
        exact u_ret rfl rfl ⟨rfl, rfl, hD⟩
      · have hD := hD.2 h2
        show u_P L xs m d m_X12_go 54 [(0, .ref 100), (1, .int x1), (2, .int x2)] [] S R _
        refine u_st rfl (fun _ => rfl) ?_
        show u_P L xs m d m_X12_go 55 [(0, .ref 100), (1, .int x1), (2, .int x2)] [.ref 100] S R _
        refine u_cv (rest := []) rfl (by decide) mt_X12_weakens v_tyM rfl rfl rfl (Nat.le_of_ble_eq_true rfl) (Nat.le_of_ble_eq_true rfl) (Nat.le_of_ble_eq_true rfl) (fun d' => c_X12_weakens L xs m d' S R) ?_
        rintro _ _ _ ⟨rfl, rfl, rfl⟩
        refine u_st rfl (fun _ => rfl) ?_
        show u_P L xs m d m_X12_go 59 [(0, .ref 100), (1, .int x1), (2, .int x2)] [.ref 100] (g_X12_weakens S) R _
        refine u_cv (rest := []) rfl (by decide) mt_X12_wardsGo v_tyM rfl rfl rfl (Nat.le_of_ble_eq_true rfl) (Nat.le_of_ble_eq_true rfl) (Nat.le_of_ble_eq_true rfl) (fun d' => c_X12_wardsGo L xs m d' (g_X12_weakens S) R) ?_
        rintro _ _ _ ⟨rfl, rfl, rfl⟩
        refine u_st rfl (fun _ => rfl) ?_
        show u_P L xs m d m_X12_go 63 [(0, .ref 100), (1, .int x1), (2, .int x2)] [.ref 100] (g_X12_wardsGo (g_X12_weakens S)) R _
        refine u_cv (rest := []) rfl (by decide) mt_X12_breaks v_tyM rfl rfl rfl (Nat.le_of_ble_eq_true rfl) (Nat.le_of_ble_eq_true rfl) (Nat.le_of_ble_eq_true rfl) (fun d' => c_X12_breaks L xs m d' (g_X12_wardsGo (g_X12_weakens S)) R) ?_
        rintro _ _ _ ⟨rfl, rfl, rfl⟩
        refine u_st rfl (fun _ => rfl) ?_
        show u_P L xs m d m_X12_go 67 [(0, .ref 100), (1, .int x1), (2, .int x2)] [.ref 100] (g_X12_breaks (g_X12_wardsGo (g_X12_weakens S))) R _
        refine u_cv (rest := []) rfl (by decide) mt_X12_whistle v_tyM rfl rfl rfl (Nat.le_of_ble_eq_true rfl) (Nat.le_of_ble_eq_true rfl) (Nat.le_of_ble_eq_true rfl) (fun d' => c_X12_whistle L xs m d' (g_X12_breaks (g_X12_wardsGo (g_X12_weakens S))) R) ?_
        rintro _ _ _ ⟨rfl, rfl, rfl⟩
        refine u_st rfl (fun _ => rfl) ?_
        show u_P L xs m d m_X12_go 71 [(0, .ref 100), (1, .int x1), (2, .int x2)] [.ref 100] (g_X12_whistle (g_X12_breaks (g_X12_wardsGo (g_X12_weakens S)))) R _
        refine u_cv (rest := []) rfl (by decide) mt_X12_nursesGo v_tyM rfl rfl rfl (Nat.le_of_ble_eq_true rfl) (Nat.le_of_ble_eq_true rfl) (Nat.le_of_ble_eq_true rfl) (fun d' => c_X12_nursesGo L xs m d' (g_X12_whistle (g_X12_breaks (g_X12_wardsGo (g_X12_weakens S)))) R) ?_
        rintro _ _ _ ⟨rfl, rfl, rfl⟩
        refine u_st rfl (fun _ => rfl) ?_
        show u_P L xs m d m_X12_go 75 [(0, .ref 100), (1, .int x1), (2, .int x2)] [.ref 100] (g_X12_nursesGo (g_X12_whistle (g_X12_breaks (g_X12_wardsGo (g_X12_weakens S))))) R _
        refine u_cv (rest := []) rfl (by decide) mt_X12_judges v_tyM rfl rfl rfl (Nat.le_of_ble_eq_true rfl) (Nat.le_of_ble_eq_true rfl) (Nat.le_of_ble_eq_true rfl) (fun d' => c_X12_judges L xs m d' (g_X12_nursesGo (g_X12_whistle (g_X12_breaks (g_X12_wardsGo (g_X12_weakens S))))) R) ?_
        rintro _ _ _ ⟨rfl, rfl, rfl⟩
        refine u_st rfl (fun _ => rfl) ?_
        refine u_st rfl (fun _ => rfl) ?_
        show u_P L xs m d m_X12_go 80 [(0, .ref 100), (1, .int x1), (2, .int x2)] [.ref 100, .ref 100] (g_X12_judges (g_X12_nursesGo (g_X12_whistle (g_X12_breaks (g_X12_wardsGo (g_X12_weakens S)))))) R _
        refine u_getE (v := (g_X12_judges (g_X12_nursesGo (g_X12_whistle (g_X12_breaks (g_X12_wardsGo (g_X12_weakens S)))))) 99 60) rfl v_tyM rfl rfl ?_
        refine u_st rfl (fun _ => rfl) ?_
        refine u_st rfl (fun _ => rfl) ?_
        show u_P L xs m d m_X12_go 85 [(0, .ref 100), (1, .int x1), (2, .int x2)] [.int (((g_X12_judges (g_X12_nursesGo (g_X12_whistle (g_X12_breaks (g_X12_wardsGo (g_X12_weakens S)))))) 99 60) + (Int32.ofInt 1)), .ref 100] (g_X12_judges (g_X12_nursesGo (g_X12_whistle (g_X12_breaks (g_X12_wardsGo (g_X12_weakens S)))))) R _
        refine u_put rfl v_tyM rfl ?_
        refine u_st rfl (fun _ => rfl) ?_
        refine u_st rfl (fun _ => rfl) ?_
        refine u_lc (b := [(0, .ref 100), (1, .int x1), (2, .int (x2 + (Int32.ofInt 1)))]) (show ([2, 0, 1] : List Nat).Nodup by decide) (show ([0, 1, 2] : List Nat).Nodup by decide) (fun i => match i with | 0 => rfl | 1 => rfl | 2 => rfl | _ + 3 => rfl) ?_
        exact (ih m hm) d x1 (x2 + (Int32.ofInt 1)) (z_s (g_X12_judges (g_X12_nursesGo (g_X12_whistle (g_X12_breaks (g_X12_wardsGo (g_X12_weakens S)))))) 99 60 (((g_X12_judges (g_X12_nursesGo (g_X12_whistle (g_X12_breaks (g_X12_wardsGo (g_X12_weakens S)))))) 99 60) + (Int32.ofInt 1))) hD
set_option maxRecDepth 4000 in
theorem w_X12_go (L : Nat) (xs : Nat → Int32) {R : v_Rf} (a : Int32) (H39 : Int32 → Int32 → v_Sf → Prop) (K : v_Sf → Prop) (k39 : ∀ (x1 : Int32) (x2 : Int32) (S : v_Sf), H39 x1 x2 S → D_X12_go_39 H39 K x1 x2 S) (n d : Nat) (S : v_Sf) (hD : D_X12_go a H39 K S) : u_P L xs n d m_X12_go 0 (lv_args 0 [.ref 100, .int a]) [] S R (z_V R K) := by
  unfold D_X12_go at hD
  show u_P L xs n d m_X12_go 0 [(0, .ref 100), (1, .int a)] [] S R _
  refine u_st rfl (fun _ => rfl) ?_
  refine u_st rfl (fun _ => rfl) ?_
  show u_P L xs n d m_X12_go 2 [(0, .ref 100), (1, .int a)] [.int (Int32.ofInt 0), .ref 100] S R _
  refine u_put rfl v_tyM rfl ?_
  refine u_st rfl (fun _ => rfl) ?_
  refine u_st rfl (fun _ => rfl) ?_
  show u_P L xs n d m_X12_go 7 [(0, .ref 100), (1, .int a)] [.int (Int32.ofInt 0), .ref 100] (z_s S 99 70 (Int32.ofInt 0)) R _
  refine u_put rfl v_tyM rfl ?_
  refine u_st rfl (fun _ => rfl) ?_
  refine u_st rfl (fun _ => rfl) ?_
  show u_P L xs n d m_X12_go 12 [(0, .ref 100), (1, .int a)] [.int (Int32.ofInt 0), .ref 100] (z_s (z_s S 99 70 (Int32.ofInt 0)) 99 71 (Int32.ofInt 0)) R _
  refine u_put rfl v_tyM rfl ?_
  refine u_st rfl (fun _ => rfl) ?_
  refine u_st rfl (fun _ => rfl) ?_
  show u_P L xs n d m_X12_go 17 [(0, .ref 100), (1, .int a)] [.int (Int32.ofInt 0), .ref 100] (z_s (z_s (z_s S 99 70 (Int32.ofInt 0)) 99 71 (Int32.ofInt 0)) 99 72 (Int32.ofInt 0)) R _
  refine u_put rfl v_tyM rfl ?_
  refine u_st rfl (fun _ => rfl) ?_
  refine u_st rfl (fun _ => rfl) ?_
  show u_P L xs n d m_X12_go 22 [(0, .ref 100), (1, .int a)] [.int (Int32.ofInt 0), .ref 100] (z_s (z_s (z_s (z_s S 99 70 (Int32.ofInt 0)) 99 71 (Int32.ofInt 0)) 99 72 (Int32.ofInt 0)) 99 73 (Int32.ofInt 0)) R _
  refine u_put rfl v_tyM rfl ?_
  refine u_st rfl (fun _ => rfl) ?_
  refine u_st rfl (fun _ => rfl) ?_
  show u_P L xs n d m_X12_go 28 [(0, .ref 100), (1, .int a)] [.int (Int32.ofInt (-2)), .ref 100] (z_s (z_s (z_s (z_s (z_s S 99 70 (Int32.ofInt 0)) 99 71 (Int32.ofInt 0)) 99 72 (Int32.ofInt 0)) 99 73 (Int32.ofInt 0)) 99 74 (Int32.ofInt 0)) R _
  refine u_put rfl v_tyM rfl ?_
  refine u_st rfl (fun _ => rfl) ?_
  refine u_st rfl (fun _ => rfl) ?_
  show u_P L xs n d m_X12_go 34 [(0, .ref 100), (1, .int a)] [.int (Int32.ofInt (-2)), .ref 100] (z_s (z_s (z_s (z_s (z_s (z_s S 99 70 (Int32.ofInt 0)) 99 71 (Int32.ofInt 0)) 99 72 (Int32.ofInt 0)) 99 73 (Int32.ofInt 0)) 99 74 (Int32.ofInt 0)) 99 75 (Int32.ofInt (-2))) R _
  refine u_put rfl v_tyM rfl ?_
  refine u_st rfl (fun _ => rfl) ?_
  refine u_st rfl (fun _ => rfl) ?_
  refine u_lc (b := [(0, .ref 100), (1, .int a), (2, .int (Int32.ofInt 0))]) (show ([2, 0, 1] : List Nat).Nodup by decide) (show ([0, 1, 2] : List Nat).Nodup by decide) (fun i => match i with | 0 => rfl | 1 => rfl | 2 => rfl | _ + 3 => rfl) ?_
  exact (hd_X12_go L xs a H39 K k39 n) d a (Int32.ofInt 0) (z_s (z_s (z_s (z_s (z_s (z_s (z_s S 99 70 (Int32.ofInt 0)) 99 71 (Int32.ofInt 0)) 99 72 (Int32.ofInt 0)) 99 73 (Int32.ofInt 0)) 99 74 (Int32.ofInt 0)) 99 75 (Int32.ofInt (-2))) 99 76 (Int32.ofInt (-2))) hD
noncomputable def r_X12_go_39 (x1 : Int32) : Nat → Nat → v_Sf → v_Sf
  | 0, k39, S => S
  | r + 1, k39, S => (if (Int32.ofInt 9999) ≤ (S 99 60) then S else r_X12_go_39 x1 r (k39 + 1) (z_s (g_X12_judges (g_X12_nursesGo (g_X12_whistle (g_X12_breaks (g_X12_wardsGo (g_X12_weakens S)))))) 99 60 (((g_X12_judges (g_X12_nursesGo (g_X12_whistle (g_X12_breaks (g_X12_wardsGo (g_X12_weakens S)))))) 99 60) + (Int32.ofInt 1))))
noncomputable def F_X12_go (a : Int32) (S : v_Sf) : v_Sf := r_X12_go_39 a (a.toInt.toNat - 0) 0 (z_s (z_s (z_s (z_s (z_s (z_s (z_s S 99 70 (Int32.ofInt 0)) 99 71 (Int32.ofInt 0)) 99 72 (Int32.ofInt 0)) 99 73 (Int32.ofInt 0)) 99 74 (Int32.ofInt 0)) 99 75 (Int32.ofInt (-2))) 99 76 (Int32.ofInt (-2)))
noncomputable def g_X12_go (a : Int32) (S : v_Sf) : v_Sf := F_X12_go a S
theorem c_X12_go (L : Nat) (xs : Nat → Int32) (n d : Nat) (a : Int32) (S : v_Sf) (R : v_Rf) : u_P L xs n d m_X12_go 0 (lv_args 0 [.ref 100, .int a]) [] S R (z_V R (fun S1 => g_X12_go a S = S1)) := by
  refine w_X12_go L xs a (fun y1 y2 T => ∃ (k39 : Nat), k39 ≤ a.toInt.toNat ∧ z_i k39 = y2 ∧ a = y1 ∧ r_X12_go_39 a (a.toInt.toNat - k39) k39 T = F_X12_go a S) (fun S1 => g_X12_go a S = S1) ?_ n d S ?_
  · rintro _ _ S1 ⟨k39, hkk, rfl, rfl, e⟩
    unfold D_X12_go_39
    rcases Nat.lt_or_ge k39 (a.toInt.toNat) with hk | hk
    · rw [show a.toInt.toNat - k39 = (a.toInt.toNat - (k39 + 1)) + 1 by omega, r_X12_go_39] at e
      refine ⟨fun q1 => ?_, fun q1 => ?_⟩
      · exact absurd hk (Nat.not_lt.mpr (z_leV q1 (by omega)))
      · refine ⟨fun q2 => ?_, fun q2 => ?_⟩
        · rw [if_pos q2] at e
          exact e.symm
        · rw [if_neg q2] at e
          exact ⟨(k39 + 1), by omega, (z_i1 k39).symm, rfl, e⟩
    · rw [show a.toInt.toNat - k39 = 0 by omega, r_X12_go_39] at e
      refine ⟨fun q3 => ?_, fun q3 => ?_⟩
      · exact e.symm
      · exact absurd hk (Nat.not_le.mpr (z_ltV q3 (by omega)))
  · unfold D_X12_go
    have e : r_X12_go_39 a (a.toInt.toNat - 0) 0 (z_s (z_s (z_s (z_s (z_s (z_s (z_s S 99 70 (Int32.ofInt 0)) 99 71 (Int32.ofInt 0)) 99 72 (Int32.ofInt 0)) 99 73 (Int32.ofInt 0)) 99 74 (Int32.ofInt 0)) 99 75 (Int32.ofInt (-2))) 99 76 (Int32.ofInt (-2))) = F_X12_go a S := by rw [F_X12_go]
    exact ⟨0, by omega, rfl, rfl, e⟩
noncomputable abbrev m_X12_months : g_M := (g_cn 12, yX12_months, cX12_months, 2, (some .int), g_look2 ttX12_months)
set_option maxRecDepth 20000 in
theorem mt_X12_months : g_mt 238 = some m_X12_months := rfl
noncomputable def f_X12_months (a : Int32) (S : v_Sf) : Int32 := (if ¬ (z_in a 1 60) = 0 then (g_X12_go a S) 99 70 else Int32.ofInt (-1))
noncomputable def g_X12_months (a : Int32) (S : v_Sf) : v_Sf := (if ¬ (z_in a 1 60) = 0 then g_X12_go a S else S)
set_option maxRecDepth 4000 in
theorem c_X12_months (L : Nat) (xs : Nat → Int32) (n d : Nat) (a : Int32) (S : v_Sf) (R : v_Rf) : u_P L xs n d m_X12_months 0 (lv_args 0 [.ref 100, .int a]) [] S R (z_Q R (fun v S1 => f_X12_months a S = v ∧ g_X12_months a S = S1)) := by
  show u_P L xs n d m_X12_months 0 [(0, .ref 100), (1, .int a)] [] S R _
  refine u_st rfl (fun _ => rfl) ?_
  refine u_st rfl (fun _ => rfl) ?_
  refine u_st rfl (fun _ => rfl) ?_
  refine u_st rfl (fun _ => rfl) ?_
  show u_P L xs n d m_X12_months 6 [(0, .ref 100), (1, .int a)] [.long (Int64.ofInt 60), .long (Int64.ofNat 1), .long a.toInt64] S R _
  refine u_cs (ac := [.long a.toInt64, .long (Int64.ofNat 1), .long (Int64.ofInt 60)]) (rest := []) rfl (by decide) mt_X12_lies (fun _ => rfl) (Nat.le_of_ble_eq_true rfl) (Nat.le_of_ble_eq_true rfl) (fun d' => z_liesC L xs n d' a (Int64.ofNat 1) (Int64.ofInt 60) (lo := 1) (hi := 60) rfl rfl S R) ?_
  rintro _ _ _ ⟨_, rfl, rfl, rfl, rfl⟩
  show u_P L xs n d m_X12_months 9 [(0, .ref 100), (1, .int a)] [.int (z_in a 1 60)] S R _
  refine u_if_ne rfl (fun h1 => ?_) (fun h1 => ?_)
  · show u_P L xs n d m_X12_months 14 [(0, .ref 100), (1, .int a)] [] S R _
    refine u_st rfl (fun _ => rfl) ?_
    refine u_st rfl (fun _ => rfl) ?_
    show u_P L xs n d m_X12_months 16 [(0, .ref 100), (1, .int a)] [.int a, .ref 100] S R _
    refine u_cv (rest := []) rfl (by decide) mt_X12_go v_tyM rfl rfl rfl (Nat.le_of_ble_eq_true rfl) (Nat.le_of_ble_eq_true rfl) (Nat.le_of_ble_eq_true rfl) (fun d' => c_X12_go L xs n d' a S R) ?_
    rintro _ _ _ ⟨rfl, rfl, rfl⟩
    refine u_st rfl (fun _ => rfl) ?_
    show u_P L xs n d m_X12_months 20 [(0, .ref 100), (1, .int a)] [.ref 100] (g_X12_go a S) R _
    refine u_getE (v := (g_X12_go a S) 99 70) rfl v_tyM rfl rfl ?_
    show u_P L xs n d m_X12_months 23 [(0, .ref 100), (1, .int a)] [.int ((g_X12_go a S) 99 70)] (g_X12_go a S) R _
    exact u_ret rfl rfl ⟨_, rfl, rfl, by rw [f_X12_months, if_pos h1], by rw [g_X12_months, if_pos h1]⟩
  · show u_P L xs n d m_X12_months 12 [(0, .ref 100), (1, .int a)] [] S R _
    refine u_st rfl (fun _ => rfl) ?_
    show u_P L xs n d m_X12_months 13 [(0, .ref 100), (1, .int a)] [.int (Int32.ofInt (-1))] S R _
    exact u_ret rfl rfl ⟨_, rfl, rfl, by rw [f_X12_months, if_neg h1], by rw [g_X12_months, if_neg h1]⟩
end PrtS42k
