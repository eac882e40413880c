/-! the ring, both sides: what is asked -/
noncomputable abbrev m_X4_ring : g_M := (g_cn 4, yX4_ring, cX4_ring, 6, (some .int), g_look2 ttX4_ring)
set_option maxRecDepth 20000 in
theorem mt_X4_ring : g_mt 49 = some m_X4_ring := rfl
noncomputable def D_X4_ring_29 (c : Nat) (H29 : Int32 → Int32 → v_Sf → Prop) (H37 : Int32 → Int32 → Int32 → v_Sf → Prop) (K : Int32 → v_Sf → Prop) (x3 : Int32) (x4 : Int32) (S : v_Sf) : Prop := ((x4 ≤ 0 → (0 ≤ (Int32.ofInt 8).toInt → (Int32.ofInt 8).toInt < 2048 → (((S 85 8) ≤ 0 → K (S 85 8) S) ∧ (¬ ((S 85 8) ≤ 0) → K (S 85 8) (g_X4_walkFirst S))))) ∧ (¬ (x4 ≤ 0) → H37 x3 x4 (Int32.ofInt 0) S))
noncomputable def D_X4_ring_37 (c : Nat) (H29 : Int32 → Int32 → v_Sf → Prop) (H37 : Int32 → Int32 → Int32 → v_Sf → Prop) (K : Int32 → v_Sf → Prop) (x3 : Int32) (x4 : Int32) (x5 : Int32) (S : v_Sf) : Prop := (((S 76 4) ≤ x5 → H29 x3 (x4 + (Int32.ofInt (-2))) S) ∧ (¬ ((S 76 4) ≤ x5) → (((f_X11_isIn x4 x5) = 0 → H37 x3 x4 (x5 + (Int32.ofInt 1)) S) ∧ (¬ ((f_X11_isIn x4 x5) = 0) → (0 ≤ ((x4 * (Int32.ofInt 8)) + x5).toInt → ((x4 * (Int32.ofInt 8)) + x5).toInt < 2048 → H37 x3 x4 (x5 + (Int32.ofInt 1)) (z_s S 85 (((x4 * (Int32.ofInt 8)) + x5).toInt.toNat) (f_X4_waysOn x4 x5 x3 S)))))))
noncomputable def D_X4_ring (c : Nat) (a : Int32) (H29 : Int32 → Int32 → v_Sf → Prop) (H37 : Int32 → Int32 → Int32 → v_Sf → Prop) (K : Int32 → v_Sf → Prop) (S : v_Sf) : Prop := H29 (((Int32.ofInt 1) <<< (((g_X4_learnOdds c (z_s (g_spread77 a S) 76 4 (f_spread77 a S))) 76 4) &&& 31)) - (Int32.ofInt 1)) (((Int32.ofInt 1) <<< (((g_X4_learnOdds c (z_s (g_spread77 a S) 76 4 (f_spread77 a S))) 76 4) &&& 31)) - (Int32.ofInt 1)) (g_X4_learnOdds c (z_s (g_spread77 a S) 76 4 (f_spread77 a S)))
set_option maxRecDepth 4000 in
theorem hd_X4_ring (L : Nat) (xs : Nat → Int32) {R : v_Rf} (hW : z_W R) {c : Nat} (hL : R 50 2 = some (c + 1)) (hc : z_cd c) (a : Int32) (H29 : Int32 → Int32 → v_Sf → Prop) (H37 : Int32 → Int32 → Int32 → v_Sf → Prop) (K : Int32 → v_Sf → Prop) (k29 : ∀ (x3 : Int32) (x4 : Int32) (S : v_Sf), H29 x3 x4 S → D_X4_ring_29 c H29 H37 K x3 x4 S) (k37 : ∀ (x3 : Int32) (x4 : Int32) (x5 : Int32) (S : v_Sf), H37 x3 x4 x5 S → D_X4_ring_37 c H29 H37 K x3 x4 x5 S) : ∀ n, (∀ (d : Nat) (j1 : Nat) (j2 : Int32) (x3 : Int32) (x4 : Int32) (S : v_Sf), H29 x3 x4 S → u_P L xs n d m_X4_ring 29 [(0, .ref 77), (1, .ref j1), (2, .int j2), (3, .int x3), (4, .int x4)] [] S R (z_Q R K)) ∧ (∀ (d : Nat) (j1 : Nat) (j2 : Int32) (j5 : Int32) (x3 : Int32) (x4 : Int32) (S : v_Sf), H29 x3 x4 S → u_P L xs n d m_X4_ring 29 [(0, .ref 77), (1, .ref j1), (2, .int j2), (3, .int x3), (4, .int x4), (5, .int j5)] [] S R (z_Q R K)) ∧ (∀ (d : Nat) (j1 : Nat) (j2 : Int32) (x3 : Int32) (x4 : Int32) (x5 : Int32) (S : v_Sf), H37 x3 x4 x5 S → u_P L xs n d m_X4_ring 37 [(0, .ref 77), (1, .ref j1), (2, .int j2), (3, .int x3), (4, .int x4), (5, .int x5)] [] S R (z_Q R K)) := by
  intro n
  induction n using Nat.strongRecOn with
  | ind n ih =>
    refine ⟨?_, ?_, ?_⟩
    · intro d j1 j2 x3 x4 S hD
      have hD := k29 x3 x4 S hD
      unfold D_X4_ring_29 at hD
      show u_P L xs n d m_X4_ring 29 [(0, .ref 77), (1, .ref j1), (2, .int j2), (3, .int x3), (4, .int x4)] [] S R _
      refine u_st1 rfl (fun _ => rfl) (fun m hm => ?_)
      show u_P L xs m d m_X4_ring 31 [(0, .ref 77), (1, .ref j1), (2, .int j2), (3, .int x3), (4, .int x4)] [.int x4] S R _
      refine u_if_le rfl (fun h1 => ?_) (fun h1 => ?_)
      · have hD := hD.1 h1
        show u_P L xs m d m_X4_ring 90 [(0, .ref 77), (1, .ref j1), (2, .int j2), (3, .int x3), (4, .int x4)] [] S R _
        refine u_st rfl (fun _ => rfl) ?_
        show u_P L xs m d m_X4_ring 91 [(0, .ref 77), (1, .ref j1), (2, .int j2), (3, .int x3), (4, .int x4)] [.ref 77] S R _
        refine u_getr rfl rfl rfl ?_
        refine u_st rfl (fun _ => rfl) ?_
        show u_P L xs m d m_X4_ring 96 [(0, .ref 77), (1, .ref j1), (2, .int j2), (3, .int x3), (4, .int x4)] [.int (Int32.ofInt 8), .ref 86] S R _
        refine u_ialdE (v := S 85 8) rfl rfl rfl (fun b21 b22 => ?_)
        have hD := hD b21 b22
        show u_P L xs m d m_X4_ring 97 [(0, .ref 77), (1, .ref j1), (2, .int j2), (3, .int x3), (4, .int x4)] [.int (S 85 8)] S R _
        refine u_st rfl (fun _ => rfl) ?_
        refine u_st rfl (fun _ => rfl) ?_
        show u_P L xs m d m_X4_ring 101 [(4, .int (S 85 8)), (0, .ref 77), (1, .ref j1), (2, .int j2), (3, .int x3)] [.int (S 85 8)] S R _
        refine u_if_le rfl (fun h3 => ?_) (fun h3 => ?_)
        · have hD := hD.1 h3
          show u_P L xs m d m_X4_ring 108 [(4, .int (S 85 8)), (0, .ref 77), (1, .ref j1), (2, .int j2), (3, .int x3)] [] S R _
          refine u_st rfl (fun _ => rfl) ?_
          show u_P L xs m d m_X4_ring 110 [(4, .int (S 85 8)), (0, .ref 77), (1, .ref j1), (2, .int j2), (3, .int x3)] [.int (S 85 8)] S R _
          exact u_ret rfl rfl ⟨_, rfl, rfl, hD⟩
        · have hD := hD.2 h3
          show u_P L xs m d m_X4_ring 104 [(4, .int (S 85 8)), (0, .ref 77), (1, .ref j1), (2, .int j2), (3, .int x3)] [] S R _
          refine u_st rfl (fun _ => rfl) ?_
          show u_P L xs m d m_X4_ring 105 [(4, .int (S 85 8)), (0, .ref 77), (1, .ref j1), (2, .int j2), (3, .int x3)] [.ref 77] S R _
          refine u_cv (rest := []) rfl (by decide) mt_X4_walkFirst rfl rfl rfl rfl (Nat.le_of_ble_eq_true rfl) (Nat.le_of_ble_eq_true rfl) (Nat.le_of_ble_eq_true rfl) (fun d' => c_X4_walkFirst L xs m d' S R) ?_
          rintro _ _ _ ⟨rfl, rfl, rfl⟩
          refine u_st rfl (fun _ => rfl) ?_
          show u_P L xs m d m_X4_ring 110 [(4, .int (S 85 8)), (0, .ref 77), (1, .ref j1), (2, .int j2), (3, .int x3)] [.int (S 85 8)] (g_X4_walkFirst S) R _
          exact u_ret rfl rfl ⟨_, rfl, rfl, hD⟩
      · have hD := hD.2 h1
        show u_P L xs m d m_X4_ring 34 [(0, .ref 77), (1, .ref j1), (2, .int j2), (3, .int x3), (4, .int x4)] [] S R _
        refine u_st rfl (fun _ => rfl) ?_
        refine u_st rfl (fun _ => rfl) ?_
        refine u_lc (b := [(0, .ref 77), (1, .ref j1), (2, .int j2), (3, .int x3), (4, .int x4), (5, .int (Int32.ofInt 0))]) (show ([5, 0, 1, 2, 3, 4] : List Nat).Nodup by decide) (show ([0, 1, 2, 3, 4, 5] : List Nat).Nodup by decide) (fun i => match i with | 0 => rfl | 1 => rfl | 2 => rfl | 3 => rfl | 4 => rfl | 5 => rfl | _ + 6 => rfl) ?_
        exact (ih m hm).2.2 d j1 j2 x3 x4 (Int32.ofInt 0) S hD
    · intro d j1 j2 j5 x3 x4 S hD
      have hD := k29 x3 x4 S hD
      unfold D_X4_ring_29 at hD
      show u_P L xs n d m_X4_ring 29 [(0, .ref 77), (1, .ref j1), (2, .int j2), (3, .int x3), (4, .int x4), (5, .int j5)] [] S R _
      refine u_st1 rfl (fun _ => rfl) (fun m hm => ?_)
      show u_P L xs m d m_X4_ring 31 [(0, .ref 77), (1, .ref j1), (2, .int j2), (3, .int x3), (4, .int x4), (5, .int j5)] [.int x4] S R _
      refine u_if_le rfl (fun h1 => ?_) (fun h1 => ?_)
      · have hD := hD.1 h1
        show u_P L xs m d m_X4_ring 90 [(0, .ref 77), (1, .ref j1), (2, .int j2), (3, .int x3), (4, .int x4), (5, .int j5)] [] S R _
        refine u_st rfl (fun _ => rfl) ?_
        show u_P L xs m d m_X4_ring 91 [(0, .ref 77), (1, .ref j1), (2, .int j2), (3, .int x3), (4, .int x4), (5, .int j5)] [.ref 77] S R _
        refine u_getr rfl rfl rfl ?_
        refine u_st rfl (fun _ => rfl) ?_
        show u_P L xs m d m_X4_ring 96 [(0, .ref 77), (1, .ref j1), (2, .int j2), (3, .int x3), (4, .int x4), (5, .int j5)] [.int (Int32.ofInt 8), .ref 86] S R _
        refine u_ialdE (v := S 85 8) rfl rfl rfl (fun b21 b22 => ?_)
        have hD := hD b21 b22
        show u_P L xs m d m_X4_ring 97 [(0, .ref 77), (1, .ref j1), (2, .int j2), (3, .int x3), (4, .int x4), (5, .int j5)] [.int (S 85 8)] S R _
        refine u_st rfl (fun _ => rfl) ?_
        refine u_st rfl (fun _ => rfl) ?_
        show u_P L xs m d m_X4_ring 101 [(4, .int (S 85 8)), (0, .ref 77), (1, .ref j1), (2, .int j2), (3, .int x3), (5, .int j5)] [.int (S 85 8)] S R _
        refine u_if_le rfl (fun h3 => ?_) (fun h3 => ?_)
        · have hD := hD.1 h3
          show u_P L xs m d m_X4_ring 108 [(4, .int (S 85 8)), (0, .ref 77), (1, .ref j1), (2, .int j2), (3, .int x3), (5, .int j5)] [] S R _
          refine u_st rfl (fun _ => rfl) ?_
          show u_P L xs m d m_X4_ring 110 [(4, .int (S 85 8)), (0, .ref 77), (1, .ref j1), (2, .int j2), (3, .int x3), (5, .int j5)] [.int (S 85 8)] S R _
          exact u_ret rfl rfl ⟨_, rfl, rfl, hD⟩
        · have hD := hD.2 h3
          show u_P L xs m d m_X4_ring 104 [(4, .int (S 85 8)), (0, .ref 77), (1, .ref j1), (2, .int j2), (3, .int x3), (5, .int j5)] [] S R _
          refine u_st rfl (fun _ => rfl) ?_
          show u_P L xs m d m_X4_ring 105 [(4, .int (S 85 8)), (0, .ref 77), (1, .ref j1), (2, .int j2), (3, .int x3), (5, .int j5)] [.ref 77] S R _
          refine u_cv (rest := []) rfl (by decide) mt_X4_walkFirst rfl rfl rfl rfl (Nat.le_of_ble_eq_true rfl) (Nat.le_of_ble_eq_true rfl) (Nat.le_of_ble_eq_true rfl) (fun d' => c_X4_walkFirst L xs m d' S R) ?_
          rintro _ _ _ ⟨rfl, rfl, rfl⟩
          refine u_st rfl (fun _ => rfl) ?_
          show u_P L xs m d m_X4_ring 110 [(4, .int (S 85 8)), (0, .ref 77), (1, .ref j1), (2, .int j2), (3, .int x3), (5, .int j5)] [.int (S 85 8)] (g_X4_walkFirst S) R _
          exact u_ret rfl rfl ⟨_, rfl, rfl, hD⟩
      · have hD := hD.2 h1
        show u_P L xs m d m_X4_ring 34 [(0, .ref 77), (1, .ref j1), (2, .int j2), (3, .int x3), (4, .int x4), (5, .int j5)] [] S R _
        refine u_st rfl (fun _ => rfl) ?_
        refine u_st rfl (fun _ => rfl) ?_
        refine u_lc (b := [(0, .ref 77), (1, .ref j1), (2, .int j2), (3, .int x3), (4, .int x4), (5, .int (Int32.ofInt 0))]) (show ([5, 0, 1, 2, 3, 4] : List Nat).Nodup by decide) (show ([0, 1, 2, 3, 4, 5] : List Nat).Nodup by decide) (fun i => match i with | 0 => rfl | 1 => rfl | 2 => rfl | 3 => rfl | 4 => rfl | 5 => rfl | _ + 6 => rfl) ?_
        exact (ih m hm).2.2 d j1 j2 x3 x4 (Int32.ofInt 0) S hD
    · intro d j1 j2 x3 x4 x5 S hD
      have hD := k37 x3 x4 x5 S hD
      unfold D_X4_ring_37 at hD
      show u_P L xs n d m_X4_ring 37 [(0, .ref 77), (1, .ref j1), (2, .int j2), (3, .int x3), (4, .int x4), (5, .int x5)] [] S R _
      refine u_st1 rfl (fun _ => rfl) (fun m hm => ?_)
      refine u_st rfl (fun _ => rfl) ?_
      show u_P L xs m d m_X4_ring 40 [(0, .ref 77), (1, .ref j1), (2, .int j2), (3, .int x3), (4, .int x4), (5, .int x5)] [.ref 77, .int x5] S R _
      refine u_getE (v := S 76 4) rfl rfl rfl rfl ?_
      show u_P L xs m d m_X4_ring 43 [(0, .ref 77), (1, .ref j1), (2, .int j2), (3, .int x3), (4, .int x4), (5, .int x5)] [.int (S 76 4), .int x5] S R _
      refine u_ic_ge rfl (fun h1 => ?_) (fun h1 => ?_)
      · have hD := hD.1 h1
        show u_P L xs m d m_X4_ring 84 [(0, .ref 77), (1, .ref j1), (2, .int j2), (3, .int x3), (4, .int x4), (5, .int x5)] [] S R _
        refine u_st rfl (fun _ => rfl) ?_
        refine u_st rfl (fun _ => rfl) ?_
        refine u_lc (b := [(0, .ref 77), (1, .ref j1), (2, .int j2), (3, .int x3), (4, .int (x4 + (Int32.ofInt (-2)))), (5, .int x5)]) (show ([4, 0, 1, 2, 3, 5] : List Nat).Nodup by decide) (show ([0, 1, 2, 3, 4, 5] : List Nat).Nodup by decide) (fun i => match i with | 0 => rfl | 1 => rfl | 2 => rfl | 3 => rfl | 4 => rfl | 5 => rfl | _ + 6 => rfl) ?_
        exact (ih m hm).2.1 d j1 j2 x5 x3 (x4 + (Int32.ofInt (-2))) S hD
      · have hD := hD.2 h1
        show u_P L xs m d m_X4_ring 46 [(0, .ref 77), (1, .ref j1), (2, .int j2), (3, .int x3), (4, .int x4), (5, .int x5)] [] S R _
        refine u_st rfl (fun _ => rfl) ?_
        refine u_st rfl (fun _ => rfl) ?_
        show u_P L xs m d m_X4_ring 50 [(0, .ref 77), (1, .ref j1), (2, .int j2), (3, .int x3), (4, .int x4), (5, .int x5)] [.int x5, .int x4] S R _
        refine u_cs (ac := [.int x4, .int x5]) (rest := []) rfl (by decide) mt_X11_isIn (fun _ => rfl) (Nat.le_of_ble_eq_true rfl) (Nat.le_of_ble_eq_true rfl) (fun d' => c_X11_isIn L xs m d' x4 x5 S R) ?_
        rintro _ _ _ ⟨_, rfl, rfl, rfl, rfl⟩
        show u_P L xs m d m_X4_ring 53 [(0, .ref 77), (1, .ref j1), (2, .int j2), (3, .int x3), (4, .int x4), (5, .int x5)] [.int (f_X11_isIn x4 x5)] S R _
        refine u_if_eq rfl (fun h2 => ?_) (fun h2 => ?_)
        · have hD := hD.1 h2
          show u_P L xs m d m_X4_ring 78 [(0, .ref 77), (1, .ref j1), (2, .int j2), (3, .int x3), (4, .int x4), (5, .int x5)] [] S R _
          refine u_st rfl (fun _ => rfl) ?_
          refine u_st rfl (fun _ => rfl) ?_
          refine u_lc (b := [(0, .ref 77), (1, .ref j1), (2, .int j2), (3, .int x3), (4, .int x4), (5, .int (x5 + (Int32.ofInt 1)))]) (show ([5, 0, 1, 2, 3, 4] : List Nat).Nodup by decide) (show ([0, 1, 2, 3, 4, 5] : List Nat).Nodup by decide) (fun i => match i with | 0 => rfl | 1 => rfl | 2 => rfl | 3 => rfl | 4 => rfl | 5 => rfl | _ + 6 => rfl) ?_
          exact (ih m hm).2.2 d j1 j2 x3 x4 (x5 + (Int32.ofInt 1)) S hD
        · have hD := hD.2 h2
          show u_P L xs m d m_X4_ring 56 [(0, .ref 77), (1, .ref j1), (2, .int j2), (3, .int x3), (4, .int x4), (5, .int x5)] [] S R _
          refine u_st rfl (fun _ => rfl) ?_
          show u_P L xs m d m_X4_ring 57 [(0, .ref 77), (1, .ref j1), (2, .int j2), (3, .int x3), (4, .int x4), (5, .int x5)] [.ref 77] S R _
          refine u_getr rfl rfl rfl ?_
          refine u_st rfl (fun _ => rfl) ?_
          refine u_st rfl (fun _ => rfl) ?_
          refine u_st rfl (fun _ => rfl) ?_
          refine u_st rfl (fun _ => rfl) ?_
          refine u_st rfl (fun _ => rfl) ?_
          refine u_st rfl (fun _ => rfl) ?_
          refine u_st rfl (fun _ => rfl) ?_
          refine u_st rfl (fun _ => rfl) ?_
          refine u_st rfl (fun _ => rfl) ?_
          show u_P L xs m d m_X4_ring 74 [(0, .ref 77), (1, .ref j1), (2, .int j2), (3, .int x3), (4, .int x4), (5, .int x5)] [.int x3, .int x5, .int x4, .ref 77, .int ((x4 * (Int32.ofInt 8)) + x5), .ref 86] S R _
          refine u_cv (rest := [.int ((x4 * (Int32.ofInt 8)) + x5), .ref 86]) rfl (by decide) mt_X4_waysOn rfl rfl rfl rfl (Nat.le_of_ble_eq_true rfl) (Nat.le_of_ble_eq_true rfl) (Nat.le_of_ble_eq_true rfl) (fun d' => c_X4_waysOn L xs m d' x4 x5 x3 S R) ?_
          rintro _ _ _ ⟨_, rfl, rfl, rfl, rfl⟩
          show u_P L xs m d m_X4_ring 77 [(0, .ref 77), (1, .ref j1), (2, .int j2), (3, .int x3), (4, .int x4), (5, .int x5)] [.int (f_X4_waysOn x4 x5 x3 S), .int ((x4 * (Int32.ofInt 8)) + x5), .ref 86] S R _
          refine u_iast rfl rfl (fun b31 b32 => ?_)
          have hD := hD b31 b32
          show u_P L xs m d m_X4_ring 78 [(0, .ref 77), (1, .ref j1), (2, .int j2), (3, .int x3), (4, .int x4), (5, .int x5)] [] (z_s S 85 (((x4 * (Int32.ofInt 8)) + x5).toInt.toNat) (f_X4_waysOn x4 x5 x3 S)) R _
          refine u_st rfl (fun _ => rfl) ?_
          refine u_st rfl (fun _ => rfl) ?_
          refine u_lc (b := [(0, .ref 77), (1, .ref j1), (2, .int j2), (3, .int x3), (4, .int x4), (5, .int (x5 + (Int32.ofInt 1)))]) (show ([5, 0, 1, 2, 3, 4] : List Nat).Nodup by decide) (show ([0, 1, 2, 3, 4, 5] : List Nat).Nodup by decide) (fun i => match i with | 0 => rfl | 1 => rfl | 2 => rfl | 3 => rfl | 4 => rfl | 5 => rfl | _ + 6 => rfl) ?_
          exact (ih m hm).2.2 d j1 j2 x3 x4 (x5 + (Int32.ofInt 1)) (z_s S 85 (((x4 * (Int32.ofInt 8)) + x5).toInt.toNat) (f_X4_waysOn x4 x5 x3 S)) hD
set_option maxRecDepth 4000 in
theorem w_X4_ring (L : Nat) (xs : Nat → Int32) {R : v_Rf} (hW : z_W R) {c : Nat} (hL : R 50 2 = some (c + 1)) (hc : z_cd c) (a : Int32) (H29 : Int32 → Int32 → v_Sf → Prop) (H37 : Int32 → Int32 → Int32 → v_Sf → Prop) (K : Int32 → v_Sf → Prop) (k29 : ∀ (x3 : Int32) (x4 : Int32) (S : v_Sf), H29 x3 x4 S → D_X4_ring_29 c H29 H37 K x3 x4 S) (k37 : ∀ (x3 : Int32) (x4 : Int32) (x5 : Int32) (S : v_Sf), H37 x3 x4 x5 S → D_X4_ring_37 c H29 H37 K x3 x4 x5 S) (n d : Nat) (S : v_Sf) (hD : D_X4_ring c a H29 H37 K S) : u_P L xs n d m_X4_ring 0 (lv_args 0 [.ref 77, .ref 2, .int a]) [] S R (z_Q R K) := by
  unfold D_X4_ring at hD
  show u_P L xs n d m_X4_ring 0 [(0, .ref 77), (1, .ref 2), (2, .int a)] [] S R _
  refine u_st rfl (fun _ => rfl) ?_
  refine u_st rfl (fun _ => rfl) ?_
  refine u_st rfl (fun _ => rfl) ?_
  show u_P L xs n d m_X4_ring 3 [(0, .ref 77), (1, .ref 2), (2, .int a)] [.ref 77, .int a, .ref 77] S R _
  refine u_getr rfl rfl rfl ?_
  show u_P L xs n d m_X4_ring 6 [(0, .ref 77), (1, .ref 2), (2, .int a)] [.ref 78, .int a, .ref 77] S R _
  refine u_cs (ac := [.int a, .ref 78]) (rest := [.ref 77]) rfl (by decide) mt_X4_spread (fun _ => rfl) (Nat.le_of_ble_eq_true rfl) (Nat.le_of_ble_eq_true rfl) (fun d' => c_spread77 L xs n d' a S R) ?_
  rintro _ _ _ ⟨_, rfl, rfl, rfl, rfl⟩
  show u_P L xs n d m_X4_ring 9 [(0, .ref 77), (1, .ref 2), (2, .int a)] [.int (f_spread77 a S), .ref 77] (g_spread77 a S) R _
  refine u_put rfl rfl rfl ?_
  refine u_st rfl (fun _ => rfl) ?_
  refine u_st rfl (fun _ => rfl) ?_
  show u_P L xs n d m_X4_ring 14 [(0, .ref 77), (1, .ref 2), (2, .int a)] [.ref 2, .ref 77] (z_s (g_spread77 a S) 76 4 (f_spread77 a S)) R _
  refine u_cv (rest := []) rfl (by decide) mt_X4_learnOdds rfl rfl rfl rfl (Nat.le_of_ble_eq_true rfl) (Nat.le_of_ble_eq_true rfl) (Nat.le_of_ble_eq_true rfl) (fun d' => c_X4_learnOdds L xs n d' hW hL hc (z_s (g_spread77 a S) 76 4 (f_spread77 a S))) ?_
  rintro _ _ _ ⟨rfl, rfl, rfl⟩
  refine u_st rfl (fun _ => rfl) ?_
  refine u_st rfl (fun _ => rfl) ?_
  show u_P L xs n d m_X4_ring 19 [(0, .ref 77), (1, .ref 2), (2, .int a)] [.ref 77, .int (Int32.ofInt 1)] (g_X4_learnOdds c (z_s (g_spread77 a S) 76 4 (f_spread77 a S))) R _
  refine u_getE (v := (g_X4_learnOdds c (z_s (g_spread77 a S) 76 4 (f_spread77 a S))) 76 4) rfl rfl rfl rfl ?_
  refine u_st rfl (fun _ => rfl) ?_
  refine u_st rfl (fun _ => rfl) ?_
  refine u_st rfl (fun _ => rfl) ?_
  refine u_st rfl (fun _ => rfl) ?_
  refine u_st rfl (fun _ => rfl) ?_
  refine u_st rfl (fun _ => rfl) ?_
  refine u_lc (b := [(0, .ref 77), (1, .ref 2), (2, .int a), (3, .int (((Int32.ofInt 1) <<< (((g_X4_learnOdds c (z_s (g_spread77 a S) 76 4 (f_spread77 a S))) 76 4) &&& 31)) - (Int32.ofInt 1))), (4, .int (((Int32.ofInt 1) <<< (((g_X4_learnOdds c (z_s (g_spread77 a S) 76 4 (f_spread77 a S))) 76 4) &&& 31)) - (Int32.ofInt 1)))]) (show ([4, 3, 0, 1, 2] : List Nat).Nodup by decide) (show ([0, 1, 2, 3, 4] : List Nat).Nodup by decide) (fun i => match i with | 0 => rfl | 1 => rfl | 2 => rfl | 3 => rfl | 4 => rfl | _ + 5 => rfl) ?_
  exact (hd_X4_ring L xs hW hL hc a H29 H37 K k29 k37 n).1 d (2) a (((Int32.ofInt 1) <<< (((g_X4_learnOdds c (z_s (g_spread77 a S) 76 4 (f_spread77 a S))) 76 4) &&& 31)) - (Int32.ofInt 1)) (((Int32.ofInt 1) <<< (((g_X4_learnOdds c (z_s (g_spread77 a S) 76 4 (f_spread77 a S))) 76 4) &&& 31)) - (Int32.ofInt 1)) (g_X4_learnOdds c (z_s (g_spread77 a S) 76 4 (f_spread77 a S))) hD
noncomputable def D_X11_round (Kp : Int32 → v_Sf → Prop) (c : Nat) (a : Int32) (b : Int32)  (K : Int32 → v_Sf → Prop) (S : v_Sf) : Prop := (((f_X11_chosen a (Int32.ofInt 3) (Int32.ofInt 8) S) = 0 → K (Int32.ofInt (-1)) S) ∧ (¬ ((f_X11_chosen a (Int32.ofInt 3) (Int32.ofInt 8) S) = 0) → ((b = (Int32.ofInt 20) → (∀ (v3 : Int32) (S4 : v_Sf), Kp v3 S4 → K v3 S4)) ∧ (¬ (b = (Int32.ofInt 20)) → (((¬ (f_X11_within b ((f_J6_bitCount_0f7a4 a) - (Int32.ofInt 1))) = 0) → (∀ (v8 : Int32) (S9 : v_Sf), Kp v8 S9 → (((¬ v8 = 0) → K (f_X4_ringAt b S9) S9) ∧ (¬ (¬ v8 = 0) → K (Int32.ofInt (-2)) S9)))) ∧ (¬ (¬ (f_X11_within b ((f_J6_bitCount_0f7a4 a) - (Int32.ofInt 1))) = 0) → K (Int32.ofInt (-1)) S))))))
set_option maxRecDepth 4000 in
theorem w_X11_round (L : Nat) (xs : Nat → Int32) {R : v_Rf} (hW : z_W R) {c : Nat} (hL : R 50 2 = some (c + 1)) (hc : z_cd c) (a : Int32) (b : Int32)  (K : Int32 → v_Sf → Prop)  (n d : Nat) (S : v_Sf) (Kp : Int32 → v_Sf → Prop) (hlp : ¬ (f_X11_chosen a (Int32.ofInt 3) (Int32.ofInt 8) S) = 0 → ∀ n d, u_P L xs n d m_X4_ring 0 (lv_args 0 [.ref 77, .ref 2, .int a]) [] S R (z_Q R Kp)) (hD : D_X11_round Kp c a b K S) : u_P L xs n d m_X11_round 0 (lv_args 0 [.ref 1, .int a, .int b]) [] S R (z_Q R K) := by
  unfold D_X11_round at hD
  show u_P L xs n d m_X11_round 0 [(0, .ref 1), (1, .int a), (2, .int b)] [] S R _
  refine u_st rfl (fun _ => rfl) ?_
  refine u_st rfl (fun _ => rfl) ?_
  refine u_st rfl (fun _ => rfl) ?_
  refine u_st rfl (fun _ => rfl) ?_
  show u_P L xs n d m_X11_round 5 [(0, .ref 1), (1, .int a), (2, .int b)] [.int (Int32.ofInt 8), .int (Int32.ofInt 3), .int a, .ref 1] S R _
  refine u_cv (rest := []) rfl (by decide) mt_X11_chosen v_tyC rfl rfl rfl (Nat.le_of_ble_eq_true rfl) (Nat.le_of_ble_eq_true rfl) (Nat.le_of_ble_eq_true rfl) (fun d' => c_X11_chosen L xs n d' a (Int32.ofInt 3) (Int32.ofInt 8) S R) ?_
  rintro _ _ _ ⟨_, rfl, rfl, rfl, rfl⟩
  show u_P L xs n d m_X11_round 8 [(0, .ref 1), (1, .int a), (2, .int b)] [.int (f_X11_chosen a (Int32.ofInt 3) (Int32.ofInt 8) S)] S R _
  refine u_if_eq rfl (fun h1 => ?_) (fun h1 => ?_)
  · have hD := hD.1 h1
    show u_P L xs n d m_X11_round 30 [(0, .ref 1), (1, .int a), (2, .int b)] [] S R _
    refine u_st rfl (fun _ => rfl) ?_
    show u_P L xs n d m_X11_round 31 [(0, .ref 1), (1, .int a), (2, .int b)] [.int (Int32.ofInt (-1))] S R _
    exact u_ret rfl rfl ⟨_, rfl, rfl, hD⟩
  · have hD := hD.2 h1
    show u_P L xs n d m_X11_round 11 [(0, .ref 1), (1, .int a), (2, .int b)] [] S R _
    refine u_st rfl (fun _ => rfl) ?_
    refine u_st rfl (fun _ => rfl) ?_
    show u_P L xs n d m_X11_round 14 [(0, .ref 1), (1, .int a), (2, .int b)] [.int (Int32.ofInt 20), .int b] S R _
    refine u_ic_eq rfl (fun h2 => ?_) (fun h2 => ?_)
    · have hD := hD.1 h2
      show u_P L xs n d m_X11_round 32 [(0, .ref 1), (1, .int a), (2, .int b)] [] S R _
      refine u_st rfl (fun _ => rfl) ?_
      show u_P L xs n d m_X11_round 33 [(0, .ref 1), (1, .int a), (2, .int b)] [.ref 1] S R _
      refine u_getr rfl v_tyC rfl ?_
      refine u_st rfl (fun _ => rfl) ?_
      show u_P L xs n d m_X11_round 37 [(0, .ref 1), (1, .int a), (2, .int b)] [.ref 1, .ref 77] S R _
      refine u_getr rfl v_tyC rfl ?_
      refine u_st rfl (fun _ => rfl) ?_
      show u_P L xs n d m_X11_round 41 [(0, .ref 1), (1, .int a), (2, .int b)] [.int a, .ref 2, .ref 77] S R _
      refine u_cv (rest := []) rfl (by decide) mt_X4_ring rfl rfl rfl rfl (Nat.le_of_ble_eq_true rfl) (Nat.le_of_ble_eq_true rfl) (Nat.le_of_ble_eq_true rfl) (fun d' => hlp h1 n d') ?_
      rintro _ S4 _ ⟨v3, rfl, rfl, q5⟩
      have hD := hD v3 S4 q5
      show u_P L xs n d m_X11_round 44 [(0, .ref 1), (1, .int a), (2, .int b)] [.int v3] S4 R _
      refine u_st rfl (fun _ => rfl) ?_
      refine u_st rfl (fun _ => rfl) ?_
      refine u_st rfl (fun _ => rfl) ?_
      show u_P L xs n d m_X11_round 48 [(3, .int v3), (0, .ref 1), (1, .int a), (2, .int b)] [.int (Int32.ofInt 20), .int b] S4 R _
      refine u_ic_ne rfl (fun h6 => absurd h2 h6) (fun _ => ?_)
      show u_P L xs n d m_X11_round 51 [(3, .int v3), (0, .ref 1), (1, .int a), (2, .int b)] [] S4 R _
      refine u_st rfl (fun _ => rfl) ?_
      show u_P L xs n d m_X11_round 52 [(3, .int v3), (0, .ref 1), (1, .int a), (2, .int b)] [.int v3] S4 R _
      exact u_ret rfl rfl ⟨_, rfl, rfl, hD⟩
    · have hD := hD.2 h2
      show u_P L xs n d m_X11_round 17 [(0, .ref 1), (1, .int a), (2, .int b)] [] S R _
      refine u_st rfl (fun _ => rfl) ?_
      refine u_st rfl (fun _ => rfl) ?_
      show u_P L xs n d m_X11_round 19 [(0, .ref 1), (1, .int a), (2, .int b)] [.int a, .int b] S R _
      refine u_cs (ac := [.int a]) (rest := [.int b]) rfl (by decide) mt_J6_bitCount_0f7a4 (fun _ => rfl) (Nat.le_of_ble_eq_true rfl) (Nat.le_of_ble_eq_true rfl) (fun d' => c_J6_bitCount_0f7a4 L xs n d' a S R) ?_
      rintro _ _ _ ⟨_, rfl, rfl, rfl, rfl⟩
      refine u_st rfl (fun _ => rfl) ?_
      refine u_st rfl (fun _ => rfl) ?_
      show u_P L xs n d m_X11_round 24 [(0, .ref 1), (1, .int a), (2, .int b)] [.int ((f_J6_bitCount_0f7a4 a) - (Int32.ofInt 1)), .int b] S R _
      refine u_cs (ac := [.int b, .int ((f_J6_bitCount_0f7a4 a) - (Int32.ofInt 1))]) (rest := []) rfl (by decide) mt_X11_within (fun _ => rfl) (Nat.le_of_ble_eq_true rfl) (Nat.le_of_ble_eq_true rfl) (fun d' => c_X11_within L xs n d' b ((f_J6_bitCount_0f7a4 a) - (Int32.ofInt 1)) S R) ?_
      rintro _ _ _ ⟨_, rfl, rfl, rfl, rfl⟩
      show u_P L xs n d m_X11_round 27 [(0, .ref 1), (1, .int a), (2, .int b)] [.int (f_X11_within b ((f_J6_bitCount_0f7a4 a) - (Int32.ofInt 1)))] S R _
      refine u_if_ne rfl (fun h7 => ?_) (fun h7 => ?_)
      · have hD := hD.1 h7
        show u_P L xs n d m_X11_round 32 [(0, .ref 1), (1, .int a), (2, .int b)] [] S R _
        refine u_st rfl (fun _ => rfl) ?_
        show u_P L xs n d m_X11_round 33 [(0, .ref 1), (1, .int a), (2, .int b)] [.ref 1] S R _
        refine u_getr rfl v_tyC rfl ?_
        refine u_st rfl (fun _ => rfl) ?_
        show u_P L xs n d m_X11_round 37 [(0, .ref 1), (1, .int a), (2, .int b)] [.ref 1, .ref 77] S R _
        refine u_getr rfl v_tyC rfl ?_
        refine u_st rfl (fun _ => rfl) ?_
        show u_P L xs n d m_X11_round 41 [(0, .ref 1), (1, .int a), (2, .int b)] [.int a, .ref 2, .ref 77] S R _
        refine u_cv (rest := []) rfl (by decide) mt_X4_ring rfl rfl rfl rfl (Nat.le_of_ble_eq_true rfl) (Nat.le_of_ble_eq_true rfl) (Nat.le_of_ble_eq_true rfl) (fun d' => hlp h1 n d') ?_
        rintro _ S9 _ ⟨v8, rfl, rfl, q10⟩
        have hD := hD v8 S9 q10
        show u_P L xs n d m_X11_round 44 [(0, .ref 1), (1, .int a), (2, .int b)] [.int v8] S9 R _
        refine u_st rfl (fun _ => rfl) ?_
        refine u_st rfl (fun _ => rfl) ?_
        refine u_st rfl (fun _ => rfl) ?_
        show u_P L xs n d m_X11_round 48 [(3, .int v8), (0, .ref 1), (1, .int a), (2, .int b)] [.int (Int32.ofInt 20), .int b] S9 R _
        refine u_ic_ne rfl (fun _ => ?_) (fun h11 => absurd h2 h11)
        show u_P L xs n d m_X11_round 53 [(3, .int v8), (0, .ref 1), (1, .int a), (2, .int b)] [] S9 R _
        refine u_st rfl (fun _ => rfl) ?_
        show u_P L xs n d m_X11_round 54 [(3, .int v8), (0, .ref 1), (1, .int a), (2, .int b)] [.int v8] S9 R _
        refine u_if_ne rfl (fun h12 => ?_) (fun h12 => ?_)
        · have hD := hD.1 h12
          show u_P L xs n d m_X11_round 62 [(3, .int v8), (0, .ref 1), (1, .int a), (2, .int b)] [] S9 R _
          refine u_st rfl (fun _ => rfl) ?_
          show u_P L xs n d m_X11_round 63 [(3, .int v8), (0, .ref 1), (1, .int a), (2, .int b)] [.ref 1] S9 R _
          refine u_getr rfl v_tyC rfl ?_
          refine u_st rfl (fun _ => rfl) ?_
          show u_P L xs n d m_X11_round 67 [(3, .int v8), (0, .ref 1), (1, .int a), (2, .int b)] [.int b, .ref 77] S9 R _
          refine u_cv (rest := []) rfl (by decide) mt_X4_ringAt rfl rfl rfl rfl (Nat.le_of_ble_eq_true rfl) (Nat.le_of_ble_eq_true rfl) (Nat.le_of_ble_eq_true rfl) (fun d' => c_X4_ringAt L xs n d' b S9 R) ?_
          rintro _ _ _ ⟨_, rfl, rfl, rfl, rfl⟩
          show u_P L xs n d m_X11_round 70 [(3, .int v8), (0, .ref 1), (1, .int a), (2, .int b)] [.int (f_X4_ringAt b S9)] S9 R _
          exact u_ret rfl rfl ⟨_, rfl, rfl, hD⟩
        · have hD := hD.2 h12
          show u_P L xs n d m_X11_round 57 [(3, .int v8), (0, .ref 1), (1, .int a), (2, .int b)] [] S9 R _
          refine u_st rfl (fun _ => rfl) ?_
          refine u_st rfl (fun _ => rfl) ?_
          show u_P L xs n d m_X11_round 70 [(3, .int v8), (0, .ref 1), (1, .int a), (2, .int b)] [.int (Int32.ofInt (-2))] S9 R _
          exact u_ret rfl rfl ⟨_, rfl, rfl, hD⟩
      · have hD := hD.2 h7
        show u_P L xs n d m_X11_round 30 [(0, .ref 1), (1, .int a), (2, .int b)] [] S R _
        refine u_st rfl (fun _ => rfl) ?_
        show u_P L xs n d m_X11_round 31 [(0, .ref 1), (1, .int a), (2, .int b)] [.int (Int32.ofInt (-1))] S R _
        exact u_ret rfl rfl ⟨_, rfl, rfl, hD⟩
noncomputable def D_X12_laysRing_2  (H2 : Int32 → Int32 → v_Sf → Prop) (H9 : Int32 → Int32 → Int32 → v_Sf → Prop) (H72 : Int32 → Int32 → v_Sf → Prop) (H78 : Int32 → Int32 → Int32 → v_Sf → Prop) (H118 : Int32 → Int32 → Int32 → Int32 → Int32 → v_Sf → Prop) (K : v_Sf → Prop) (x1 : Int32) (x2 : Int32) (S : v_Sf) : Prop := ((x1 ≤ x2 → H72 x1 (((Int32.ofInt 1) <<< (x1 &&& 31)) - (Int32.ofInt 1)) S) ∧ (¬ (x1 ≤ x2) → H9 x1 x2 (Int32.ofInt 0) S))
noncomputable def D_X12_laysRing_9  (H2 : Int32 → Int32 → v_Sf → Prop) (H9 : Int32 → Int32 → Int32 → v_Sf → Prop) (H72 : Int32 → Int32 → v_Sf → Prop) (H78 : Int32 → Int32 → Int32 → v_Sf → Prop) (H118 : Int32 → Int32 → Int32 → Int32 → Int32 → v_Sf → Prop) (K : v_Sf → Prop) (x1 : Int32) (x2 : Int32) (x3 : Int32) (S : v_Sf) : Prop := ((x1 ≤ x3 → H2 x1 (x2 + (Int32.ofInt 1)) S) ∧ (¬ (x1 ≤ x3) → ((x2 = x3 → (0 ≤ (((Int32.ofInt 8) * x2) + x3).toInt → (((Int32.ofInt 8) * x2) + x3).toInt < 64 → H9 x1 x2 (x3 + (Int32.ofInt 1)) (z_s S 172 ((((Int32.ofInt 8) * x2) + x3).toInt.toNat) (u_nar 2 (Int32.ofInt 0))))) ∧ (¬ (x2 = x3) → (0 ≤ x2.toInt → x2.toInt < 12 → (0 ≤ x3.toInt → x3.toInt < 12 → (((¬ (f_X12_doQuarrel (S 152 x2.toInt.toNat) (S 152 x3.toInt.toNat) S) = 0) → (0 ≤ (((Int32.ofInt 8) * x2) + x3).toInt → (((Int32.ofInt 8) * x2) + x3).toInt < 64 → H9 x1 x2 (x3 + (Int32.ofInt 1)) (z_s (g_X12_doQuarrel (S 152 x2.toInt.toNat) (S 152 x3.toInt.toNat) S) 172 ((((Int32.ofInt 8) * x2) + x3).toInt.toNat) (u_nar 2 (Int32.ofInt 0))))) ∧ (¬ (¬ (f_X12_doQuarrel (S 152 x2.toInt.toNat) (S 152 x3.toInt.toNat) S) = 0) → (0 ≤ (((Int32.ofInt 8) * x2) + x3).toInt → (((Int32.ofInt 8) * x2) + x3).toInt < 64 → H9 x1 x2 (x3 + (Int32.ofInt 1)) (z_s (g_X12_doQuarrel (S 152 x2.toInt.toNat) (S 152 x3.toInt.toNat) S) 172 ((((Int32.ofInt 8) * x2) + x3).toInt.toNat) (u_nar 2 (Int32.ofInt 1))))))))))))
noncomputable def D_X12_laysRing_72  (H2 : Int32 → Int32 → v_Sf → Prop) (H9 : Int32 → Int32 → Int32 → v_Sf → Prop) (H72 : Int32 → Int32 → v_Sf → Prop) (H78 : Int32 → Int32 → Int32 → v_Sf → Prop) (H118 : Int32 → Int32 → Int32 → Int32 → Int32 → v_Sf → Prop) (K : v_Sf → Prop) (x1 : Int32) (x2 : Int32) (S : v_Sf) : Prop := ((x2 ≤ 0 → K S) ∧ (¬ (x2 ≤ 0) → H78 x1 x2 (Int32.ofInt 0) S))
noncomputable def D_X12_laysRing_78  (H2 : Int32 → Int32 → v_Sf → Prop) (H9 : Int32 → Int32 → Int32 → v_Sf → Prop) (H72 : Int32 → Int32 → v_Sf → Prop) (H78 : Int32 → Int32 → Int32 → v_Sf → Prop) (H118 : Int32 → Int32 → Int32 → Int32 → Int32 → v_Sf → Prop) (K : v_Sf → Prop) (x1 : Int32) (x2 : Int32) (x3 : Int32) (S : v_Sf) : Prop := ((x1 ≤ x3 → H72 x1 (x2 + (Int32.ofInt (-1))) S) ∧ (¬ (x1 ≤ x3) → (((¬ x2 = (((Int32.ofInt 1) <<< (x1 &&& 31)) - (Int32.ofInt 1))) → H118 x1 x2 x3 (Int32.ofInt 0) (Int32.ofInt 1) S) ∧ (¬ (¬ x2 = (((Int32.ofInt 1) <<< (x1 &&& 31)) - (Int32.ofInt 1))) → (0 ≤ ((Int32.ofInt 8) * x3).toInt → ((Int32.ofInt 8) * x3).toInt < 64 → (((S 172 (((Int32.ofInt 8) * x3).toInt.toNat)) = 0 → H118 x1 x2 x3 (Int32.ofInt 0) (Int32.ofInt 1) S) ∧ (¬ ((S 172 (((Int32.ofInt 8) * x3).toInt.toNat)) = 0) → H118 x1 x2 x3 (Int32.ofInt 1) (Int32.ofInt 1) S)))))))
noncomputable def D_X12_laysRing_118  (H2 : Int32 → Int32 → v_Sf → Prop) (H9 : Int32 → Int32 → Int32 → v_Sf → Prop) (H72 : Int32 → Int32 → v_Sf → Prop) (H78 : Int32 → Int32 → Int32 → v_Sf → Prop) (H118 : Int32 → Int32 → Int32 → Int32 → Int32 → v_Sf → Prop) (K : v_Sf → Prop) (x1 : Int32) (x2 : Int32) (x3 : Int32) (x4 : Int32) (x5 : Int32) (S : v_Sf) : Prop := ((x1 ≤ x5 → (0 ≤ (((Int32.ofInt 8) * x2) + x3).toInt → (((Int32.ofInt 8) * x2) + x3).toInt < 2048 → H78 x1 x2 (x3 + (Int32.ofInt 1)) (z_s S 171 ((((Int32.ofInt 8) * x2) + x3).toInt.toNat) x4))) ∧ (¬ (x1 ≤ x5) → (((¬ (f_X12_has x2 x5) = 0) → H118 x1 x2 x3 x4 (x5 + (Int32.ofInt 1)) S) ∧ (¬ (¬ (f_X12_has x2 x5) = 0) → (0 ≤ (((Int32.ofInt 8) * x3) + x5).toInt → (((Int32.ofInt 8) * x3) + x5).toInt < 64 → (((S 172 ((((Int32.ofInt 8) * x3) + x5).toInt.toNat)) = 0 → H118 x1 x2 x3 x4 (x5 + (Int32.ofInt 1)) S) ∧ (¬ ((S 172 ((((Int32.ofInt 8) * x3) + x5).toInt.toNat)) = 0) → (0 ≤ (((Int32.ofInt 8) * (x2 ||| ((Int32.ofInt 1) <<< (x5 &&& 31)))) + x5).toInt → (((Int32.ofInt 8) * (x2 ||| ((Int32.ofInt 1) <<< (x5 &&& 31)))) + x5).toInt < 2048 → H118 x1 x2 x3 (x4 + (S 171 ((((Int32.ofInt 8) * (x2 ||| ((Int32.ofInt 1) <<< (x5 &&& 31)))) + x5).toInt.toNat))) (x5 + (Int32.ofInt 1)) S))))))))
noncomputable def D_X12_laysRing (a : Int32) (H2 : Int32 → Int32 → v_Sf → Prop) (H9 : Int32 → Int32 → Int32 → v_Sf → Prop) (H72 : Int32 → Int32 → v_Sf → Prop) (H78 : Int32 → Int32 → Int32 → v_Sf → Prop) (H118 : Int32 → Int32 → Int32 → Int32 → Int32 → v_Sf → Prop) (K : v_Sf → Prop) (S : v_Sf) : Prop := H2 a (Int32.ofInt 0) S
set_option maxRecDepth 4000 in
theorem hd_X12_laysRing (L : Nat) (xs : Nat → Int32) {R : v_Rf} (a : Int32) (H2 : Int32 → Int32 → v_Sf → Prop) (H9 : Int32 → Int32 → Int32 → v_Sf → Prop) (H72 : Int32 → Int32 → v_Sf → Prop) (H78 : Int32 → Int32 → Int32 → v_Sf → Prop) (H118 : Int32 → Int32 → Int32 → Int32 → Int32 → v_Sf → Prop) (K : v_Sf → Prop) (k2 : ∀ (x1 : Int32) (x2 : Int32) (S : v_Sf), H2 x1 x2 S → D_X12_laysRing_2 H2 H9 H72 H78 H118 K x1 x2 S) (k9 : ∀ (x1 : Int32) (x2 : Int32) (x3 : Int32) (S : v_Sf), H9 x1 x2 x3 S → D_X12_laysRing_9 H2 H9 H72 H78 H118 K x1 x2 x3 S) (k72 : ∀ (x1 : Int32) (x2 : Int32) (S : v_Sf), H72 x1 x2 S → D_X12_laysRing_72 H2 H9 H72 H78 H118 K x1 x2 S) (k78 : ∀ (x1 : Int32) (x2 : Int32) (x3 : Int32) (S : v_Sf), H78 x1 x2 x3 S → D_X12_laysRing_78 H2 H9 H72 H78 H118 K x1 x2 x3 S) (k118 : ∀ (x1 : Int32) (x2 : Int32) (x3 : Int32) (x4 : Int32) (x5 : Int32) (S : v_Sf), H118 x1 x2 x3 x4 x5 S → D_X12_laysRing_118 H2 H9 H72 H78 H118 K x1 x2 x3 x4 x5 S) : ∀ n, (∀ (d : Nat) (x1 : Int32) (x2 : Int32) (S : v_Sf), H2 x1 x2 S → u_P L xs n d m_X12_laysRing 2 [(0, .ref 100), (1, .int x1), (2, .int x2)] [] S R (z_V R K)) ∧ (∀ (d : Nat) (j3 : Int32) (x1 : Int32) (x2 : Int32) (S : v_Sf), H2 x1 x2 S → u_P L xs n d m_X12_laysRing 2 [(0, .ref 100), (1, .int x1), (2, .int x2), (3, .int j3)] [] S R (z_V R K)) ∧ (∀ (d : Nat) (x1 : Int32) (x2 : Int32) (x3 : Int32) (S : v_Sf), H9 x1 x2 x3 S → u_P L xs n d m_X12_laysRing 9 [(0, .ref 100), (1, .int x1), (2, .int x2), (3, .int x3)] [] S R (z_V R K)) ∧ (∀ (d : Nat) (x1 : Int32) (x2 : Int32) (S : v_Sf), H72 x1 x2 S → u_P L xs n d m_X12_laysRing 72 [(0, .ref 100), (1, .int x1), (2, .int x2)] [] S R (z_V R K)) ∧ (∀ (d : Nat) (j3 : Int32) (x1 : Int32) (x2 : Int32) (S : v_Sf), H72 x1 x2 S → u_P L xs n d m_X12_laysRing 72 [(0, .ref 100), (1, .int x1), (2, .int x2), (3, .int j3)] [] S R (z_V R K)) ∧ (∀ (d : Nat) (j3 : Int32) (j4 : Int32) (j5 : Int32) (x1 : Int32) (x2 : Int32) (S : v_Sf), H72 x1 x2 S → u_P L xs n d m_X12_laysRing 72 [(0, .ref 100), (1, .int x1), (2, .int x2), (3, .int j3), (4, .int j4), (5, .int j5)] [] S R (z_V R K)) ∧ (∀ (d : Nat) (x1 : Int32) (x2 : Int32) (x3 : Int32) (S : v_Sf), H78 x1 x2 x3 S → u_P L xs n d m_X12_laysRing 78 [(0, .ref 100), (1, .int x1), (2, .int x2), (3, .int x3)] [] S R (z_V R K)) ∧ (∀ (d : Nat) (j4 : Int32) (j5 : Int32) (x1 : Int32) (x2 : Int32) (x3 : Int32) (S : v_Sf), H78 x1 x2 x3 S → u_P L xs n d m_X12_laysRing 78 [(0, .ref 100), (1, .int x1), (2, .int x2), (3, .int x3), (4, .int j4), (5, .int j5)] [] S R (z_V R K)) ∧ (∀ (d : Nat) (x1 : Int32) (x2 : Int32) (x3 : Int32) (x4 : Int32) (x5 : Int32) (S : v_Sf), H118 x1 x2 x3 x4 x5 S → u_P L xs n d m_X12_laysRing 118 [(0, .ref 100), (1, .int x1), (2, .int x2), (3, .int x3), (4, .int x4), (5, .int x5)] [] S R (z_V R K)) := by
  intro n
  induction n using Nat.strongRecOn with
  | ind n ih =>
    refine ⟨?_, ?_, ?_, ?_, ?_, ?_, ?_, ?_, ?_⟩
    · intro d x1 x2 S hD
      have hD := k2 x1 x2 S hD
      unfold D_X12_laysRing_2 at hD
      show u_P L xs n d m_X12_laysRing 2 [(0, .ref 100), (1, .int x1), (2, .int x2)] [] S R _
      refine u_st1 rfl (fun _ => rfl) (fun m hm => ?_)
      refine u_st rfl (fun _ => rfl) ?_
      show u_P L xs m d m_X12_laysRing 4 [(0, .ref 100), (1, .int x1), (2, .int x2)] [.int x1, .int x2] S R _
      refine u_ic_ge rfl (fun h1 => ?_) (fun h1 => ?_)
      · have hD := hD.1 h1
        show u_P L xs m d m_X12_laysRing 66 [(0, .ref 100), (1, .int x1), (2, .int x2)] [] S R _
        refine u_st rfl (fun _ => rfl) ?_
        refine u_st rfl (fun _ => rfl) ?_
        refine u_st rfl (fun _ => rfl) ?_
        refine u_st rfl (fun _ => rfl) ?_
        refine u_st rfl (fun _ => rfl) ?_
        refine u_st rfl (fun _ => rfl) ?_
        refine u_lc (b := [(0, .ref 100), (1, .int x1), (2, .int (((Int32.ofInt 1) <<< (x1 &&& 31)) - (Int32.ofInt 1)))]) (show ([2, 0, 1] : List Nat).Nodup by decide) (show ([0, 1, 2] : List Nat).Nodup by decide) (fun i => match i with | 0 => rfl | 1 => rfl | 2 => rfl | _ + 3 => rfl) ?_
        exact (ih m hm).2.2.2.1 d x1 (((Int32.ofInt 1) <<< (x1 &&& 31)) - (Int32.ofInt 1)) S hD
      · have hD := hD.2 h1
        show u_P L xs m d m_X12_laysRing 7 [(0, .ref 100), (1, .int x1), (2, .int x2)] [] S R _
        refine u_st rfl (fun _ => rfl) ?_
        refine u_st rfl (fun _ => rfl) ?_
        refine u_lc (b := [(0, .ref 100), (1, .int x1), (2, .int x2), (3, .int (Int32.ofInt 0))]) (show ([3, 0, 1, 2] : List Nat).Nodup by decide) (show ([0, 1, 2, 3] : List Nat).Nodup by decide) (fun i => match i with | 0 => rfl | 1 => rfl | 2 => rfl | 3 => rfl | _ + 4 => rfl) ?_
        exact (ih m hm).2.2.1 d x1 x2 (Int32.ofInt 0) S hD
    · intro d j3 x1 x2 S hD
      have hD := k2 x1 x2 S hD
      unfold D_X12_laysRing_2 at hD
      show u_P L xs n d m_X12_laysRing 2 [(0, .ref 100), (1, .int x1), (2, .int x2), (3, .int j3)] [] S R _
      refine u_st1 rfl (fun _ => rfl) (fun m hm => ?_)
      refine u_st rfl (fun _ => rfl) ?_
      show u_P L xs m d m_X12_laysRing 4 [(0, .ref 100), (1, .int x1), (2, .int x2), (3, .int j3)] [.int x1, .int x2] S R _
      refine u_ic_ge rfl (fun h1 => ?_) (fun h1 => ?_)
      · have hD := hD.1 h1
        show u_P L xs m d m_X12_laysRing 66 [(0, .ref 100), (1, .int x1), (2, .int x2), (3, .int j3)] [] S R _
        refine u_st rfl (fun _ => rfl) ?_
        refine u_st rfl (fun _ => rfl) ?_
        refine u_st rfl (fun _ => rfl) ?_
        refine u_st rfl (fun _ => rfl) ?_
        refine u_st rfl (fun _ => rfl) ?_
        refine u_st rfl (fun _ => rfl) ?_
        refine u_lc (b := [(0, .ref 100), (1, .int x1), (2, .int (((Int32.ofInt 1) <<< (x1 &&& 31)) - (Int32.ofInt 1))), (3, .int j3)]) (show ([2, 0, 1, 3] : List Nat).Nodup by decide) (show ([0, 1, 2, 3] : List Nat).Nodup by decide) (fun i => match i with | 0 => rfl | 1 => rfl | 2 => rfl | 3 => rfl | _ + 4 => rfl) ?_
        exact (ih m hm).2.2.2.2.1 d j3 x1 (((Int32.ofInt 1) <<< (x1 &&& 31)) - (Int32.ofInt 1)) S hD
      · have hD := hD.2 h1
        show u_P L xs m d m_X12_laysRing 7 [(0, .ref 100), (1, .int x1), (2, .int x2), (3, .int j3)] [] S R _
        refine u_st rfl (fun _ => rfl) ?_
        refine u_st rfl (fun _ => rfl) ?_
        refine u_lc (b := [(0, .ref 100), (1, .int x1), (2, .int x2), (3, .int (Int32.ofInt 0))]) (show ([3, 0, 1, 2] : List Nat).Nodup by decide) (show ([0, 1, 2, 3] : List Nat).Nodup by decide) (fun i => match i with | 0 => rfl | 1 => rfl | 2 => rfl | 3 => rfl | _ + 4 => rfl) ?_
        exact (ih m hm).2.2.1 d x1 x2 (Int32.ofInt 0) S hD
    · intro d x1 x2 x3 S hD
      have hD := k9 x1 x2 x3 S hD
      unfold D_X12_laysRing_9 at hD
      show u_P L xs n d m_X12_laysRing 9 [(0, .ref 100), (1, .int x1), (2, .int x2), (3, .int x3)] [] S R _
      refine u_st1 rfl (fun _ => rfl) (fun m hm => ?_)
      refine u_st rfl (fun _ => rfl) ?_
      show u_P L xs m d m_X12_laysRing 11 [(0, .ref 100), (1, .int x1), (2, .int x2), (3, .int x3)] [.int x1, .int x3] S R _
      refine u_ic_ge rfl (fun h1 => ?_) (fun h1 => ?_)
      · have hD := hD.1 h1
        show u_P L xs m d m_X12_laysRing 60 [(0, .ref 100), (1, .int x1), (2, .int x2), (3, .int x3)] [] S R _
        refine u_st rfl (fun _ => rfl) ?_
        refine u_st rfl (fun _ => rfl) ?_
        refine u_lc (b := [(0, .ref 100), (1, .int x1), (2, .int (x2 + (Int32.ofInt 1))), (3, .int x3)]) (show ([2, 0, 1, 3] : List Nat).Nodup by decide) (show ([0, 1, 2, 3] : List Nat).Nodup by decide) (fun i => match i with | 0 => rfl | 1 => rfl | 2 => rfl | 3 => rfl | _ + 4 => rfl) ?_
        exact (ih m hm).2.1 d x3 x1 (x2 + (Int32.ofInt 1)) S hD
      · have hD := hD.2 h1
        show u_P L xs m d m_X12_laysRing 14 [(0, .ref 100), (1, .int x1), (2, .int x2), (3, .int x3)] [] S R _
        refine u_st rfl (fun _ => rfl) ?_
        show u_P L xs m d m_X12_laysRing 15 [(0, .ref 100), (1, .int x1), (2, .int x2), (3, .int x3)] [.ref 100] S R _
        refine u_getr rfl v_tyM rfl ?_
        refine u_st rfl (fun _ => rfl) ?_
        refine u_st rfl (fun _ => rfl) ?_
        refine u_st rfl (fun _ => rfl) ?_
        refine u_st rfl (fun _ => rfl) ?_
        refine u_st rfl (fun _ => rfl) ?_
        refine u_st rfl (fun _ => rfl) ?_
        refine u_st rfl (fun _ => rfl) ?_
        show u_P L xs m d m_X12_laysRing 26 [(0, .ref 100), (1, .int x1), (2, .int x2), (3, .int x3)] [.int x3, .int x2, .int (((Int32.ofInt 8) * x2) + x3), .ref 173] S R _
        refine u_ic_eq rfl (fun h2 => ?_) (fun h2 => ?_)
        · have hD := hD.1 h2
          show u_P L xs m d m_X12_laysRing 52 [(0, .ref 100), (1, .int x1), (2, .int x2), (3, .int x3)] [.int (((Int32.ofInt 8) * x2) + x3), .ref 173] S R _
          refine u_st rfl (fun _ => rfl) ?_
          show u_P L xs m d m_X12_laysRing 53 [(0, .ref 100), (1, .int x1), (2, .int x2), (3, .int x3)] [.int (Int32.ofInt 0), .int (((Int32.ofInt 8) * x2) + x3), .ref 173] S R _
          refine u_bast rfl rfl (by decide) (fun b31 b32 => ?_)
          have hD := hD b31 b32
          show u_P L xs m d m_X12_laysRing 54 [(0, .ref 100), (1, .int x1), (2, .int x2), (3, .int x3)] [] (z_s S 172 ((((Int32.ofInt 8) * x2) + x3).toInt.toNat) (u_nar 2 (Int32.ofInt 0))) R _
          refine u_st rfl (fun _ => rfl) ?_
          refine u_st rfl (fun _ => rfl) ?_
          refine u_lc (b := [(0, .ref 100), (1, .int x1), (2, .int x2), (3, .int (x3 + (Int32.ofInt 1)))]) (show ([3, 0, 1, 2] : List Nat).Nodup by decide) (show ([0, 1, 2, 3] : List Nat).Nodup by decide) (fun i => match i with | 0 => rfl | 1 => rfl | 2 => rfl | 3 => rfl | _ + 4 => rfl) ?_
          exact (ih m hm).2.2.1 d x1 x2 (x3 + (Int32.ofInt 1)) (z_s S 172 ((((Int32.ofInt 8) * x2) + x3).toInt.toNat) (u_nar 2 (Int32.ofInt 0))) hD
        · have hD := hD.2 h2
          show u_P L xs m d m_X12_laysRing 29 [(0, .ref 100), (1, .int x1), (2, .int x2), (3, .int x3)] [.int (((Int32.ofInt 8) * x2) + x3), .ref 173] S R _
          refine u_st rfl (fun _ => rfl) ?_
          refine u_st rfl (fun _ => rfl) ?_
          show u_P L xs m d m_X12_laysRing 31 [(0, .ref 100), (1, .int x1), (2, .int x2), (3, .int x3)] [.ref 100, .ref 100, .int (((Int32.ofInt 8) * x2) + x3), .ref 173] S R _
          refine u_getr rfl v_tyM rfl ?_
          refine u_st rfl (fun _ => rfl) ?_
          show u_P L xs m d m_X12_laysRing 35 [(0, .ref 100), (1, .int x1), (2, .int x2), (3, .int x3)] [.int x2, .ref 153, .ref 100, .int (((Int32.ofInt 8) * x2) + x3), .ref 173] S R _
          refine u_ialdE (v := S 152 x2.toInt.toNat) rfl rfl rfl (fun b41 b42 => ?_)
          have hD := hD b41 b42
          show u_P L xs m d m_X12_laysRing 36 [(0, .ref 100), (1, .int x1), (2, .int x2), (3, .int x3)] [.int (S 152 x2.toInt.toNat), .ref 100, .int (((Int32.ofInt 8) * x2) + x3), .ref 173] S R _
          refine u_st rfl (fun _ => rfl) ?_
          show u_P L xs m d m_X12_laysRing 37 [(0, .ref 100), (1, .int x1), (2, .int x2), (3, .int x3)] [.ref 100, .int (S 152 x2.toInt.toNat), .ref 100, .int (((Int32.ofInt 8) * x2) + x3), .ref 173] S R _
          refine u_getr rfl v_tyM rfl ?_
          refine u_st rfl (fun _ => rfl) ?_
          show u_P L xs m d m_X12_laysRing 41 [(0, .ref 100), (1, .int x1), (2, .int x2), (3, .int x3)] [.int x3, .ref 153, .int (S 152 x2.toInt.toNat), .ref 100, .int (((Int32.ofInt 8) * x2) + x3), .ref 173] S R _
          refine u_ialdE (v := S 152 x3.toInt.toNat) rfl rfl rfl (fun b51 b52 => ?_)
          have hD := hD b51 b52
          show u_P L xs m d m_X12_laysRing 42 [(0, .ref 100), (1, .int x1), (2, .int x2), (3, .int x3)] [.int (S 152 x3.toInt.toNat), .int (S 152 x2.toInt.toNat), .ref 100, .int (((Int32.ofInt 8) * x2) + x3), .ref 173] S R _
          refine u_cv (rest := [.int (((Int32.ofInt 8) * x2) + x3), .ref 173]) rfl (by decide) mt_X12_doQuarrel v_tyM rfl rfl rfl (Nat.le_of_ble_eq_true rfl) (Nat.le_of_ble_eq_true rfl) (Nat.le_of_ble_eq_true rfl) (fun d' => c_X12_doQuarrel L xs m d' (S 152 x2.toInt.toNat) (S 152 x3.toInt.toNat) S R) ?_
          rintro _ _ _ ⟨_, rfl, rfl, rfl, rfl⟩
          show u_P L xs m d m_X12_laysRing 45 [(0, .ref 100), (1, .int x1), (2, .int x2), (3, .int x3)] [.int (f_X12_doQuarrel (S 152 x2.toInt.toNat) (S 152 x3.toInt.toNat) S), .int (((Int32.ofInt 8) * x2) + x3), .ref 173] (g_X12_doQuarrel (S 152 x2.toInt.toNat) (S 152 x3.toInt.toNat) S) R _
          refine u_if_ne rfl (fun h6 => ?_) (fun h6 => ?_)
          · have hD := hD.1 h6
            show u_P L xs m d m_X12_laysRing 52 [(0, .ref 100), (1, .int x1), (2, .int x2), (3, .int x3)] [.int (((Int32.ofInt 8) * x2) + x3), .ref 173] (g_X12_doQuarrel (S 152 x2.toInt.toNat) (S 152 x3.toInt.toNat) S) R _
            refine u_st rfl (fun _ => rfl) ?_
            show u_P L xs m d m_X12_laysRing 53 [(0, .ref 100), (1, .int x1), (2, .int x2), (3, .int x3)] [.int (Int32.ofInt 0), .int (((Int32.ofInt 8) * x2) + x3), .ref 173] (g_X12_doQuarrel (S 152 x2.toInt.toNat) (S 152 x3.toInt.toNat) S) R _
            refine u_bast rfl rfl (by decide) (fun b71 b72 => ?_)
            have hD := hD b71 b72
            show u_P L xs m d m_X12_laysRing 54 [(0, .ref 100), (1, .int x1), (2, .int x2), (3, .int x3)] [] (z_s (g_X12_doQuarrel (S 152 x2.toInt.toNat) (S 152 x3.toInt.toNat) S) 172 ((((Int32.ofInt 8) * x2) + x3).toInt.toNat) (u_nar 2 (Int32.ofInt 0))) R _
            refine u_st rfl (fun _ => rfl) ?_
            refine u_st rfl (fun _ => rfl) ?_
            refine u_lc (b := [(0, .ref 100), (1, .int x1), (2, .int x2), (3, .int (x3 + (Int32.ofInt 1)))]) (show ([3, 0, 1, 2] : List Nat).Nodup by decide) (show ([0, 1, 2, 3] : List Nat).Nodup by decide) (fun i => match i with | 0 => rfl | 1 => rfl | 2 => rfl | 3 => rfl | _ + 4 => rfl) ?_
            exact (ih m hm).2.2.1 d x1 x2 (x3 + (Int32.ofInt 1)) (z_s (g_X12_doQuarrel (S 152 x2.toInt.toNat) (S 152 x3.toInt.toNat) S) 172 ((((Int32.ofInt 8) * x2) + x3).toInt.toNat) (u_nar 2 (Int32.ofInt 0))) hD
          · have hD := hD.2 h6
            show u_P L xs m d m_X12_laysRing 48 [(0, .ref 100), (1, .int x1), (2, .int x2), (3, .int x3)] [.int (((Int32.ofInt 8) * x2) + x3), .ref 173] (g_X12_doQuarrel (S 152 x2.toInt.toNat) (S 152 x3.toInt.toNat) S) R _
            refine u_st rfl (fun _ => rfl) ?_
            refine u_st rfl (fun _ => rfl) ?_
            show u_P L xs m d m_X12_laysRing 53 [(0, .ref 100), (1, .int x1), (2, .int x2), (3, .int x3)] [.int (Int32.ofInt 1), .int (((Int32.ofInt 8) * x2) + x3), .ref 173] (g_X12_doQuarrel (S 152 x2.toInt.toNat) (S 152 x3.toInt.toNat) S) R _
            refine u_bast rfl rfl (by decide) (fun b81 b82 => ?_)
            have hD := hD b81 b82
            show u_P L xs m d m_X12_laysRing 54 [(0, .ref 100), (1, .int x1), (2, .int x2), (3, .int x3)] [] (z_s (g_X12_doQuarrel (S 152 x2.toInt.toNat) (S 152 x3.toInt.toNat) S) 172 ((((Int32.ofInt 8) * x2) + x3).toInt.toNat) (u_nar 2 (Int32.ofInt 1))) R _
            refine u_st rfl (fun _ => rfl) ?_
            refine u_st rfl (fun _ => rfl) ?_
            refine u_lc (b := [(0, .ref 100), (1, .int x1), (2, .int x2), (3, .int (x3 + (Int32.ofInt 1)))]) (show ([3, 0, 1, 2] : List Nat).Nodup by decide) (show ([0, 1, 2, 3] : List Nat).Nodup by decide) (fun i => match i with | 0 => rfl | 1 => rfl | 2 => rfl | 3 => rfl | _ + 4 => rfl) ?_
            exact (ih m hm).2.2.1 d x1 x2 (x3 + (Int32.ofInt 1)) (z_s (g_X12_doQuarrel (S 152 x2.toInt.toNat) (S 152 x3.toInt.toNat) S) 172 ((((Int32.ofInt 8) * x2) + x3).toInt.toNat) (u_nar 2 (Int32.ofInt 1))) hD
    · intro d x1 x2 S hD
      have hD := k72 x1 x2 S hD
      unfold D_X12_laysRing_72 at hD
      show u_P L xs n d m_X12_laysRing 72 [(0, .ref 100), (1, .int x1), (2, .int x2)] [] S R _
      refine u_st1 rfl (fun _ => rfl) (fun m hm => ?_)
      show u_P L xs m d m_X12_laysRing 73 [(0, .ref 100), (1, .int x1), (2, .int x2)] [.int x2] S R _
      refine u_if_le rfl (fun h1 => ?_) (fun h1 => ?_)
      · have hD := hD.1 h1
        show u_P L xs m d m_X12_laysRing 201 [(0, .ref 100), (1, .int x1), (2, .int x2)] [] S R _
        exact u_ret rfl rfl ⟨rfl, rfl, hD⟩
      · have hD := hD.2 h1
        show u_P L xs m d m_X12_laysRing 76 [(0, .ref 100), (1, .int x1), (2, .int x2)] [] S R _
        refine u_st rfl (fun _ => rfl) ?_
        refine u_st rfl (fun _ => rfl) ?_
        refine u_lc (b := [(0, .ref 100), (1, .int x1), (2, .int x2), (3, .int (Int32.ofInt 0))]) (show ([3, 0, 1, 2] : List Nat).Nodup by decide) (show ([0, 1, 2, 3] : List Nat).Nodup by decide) (fun i => match i with | 0 => rfl | 1 => rfl | 2 => rfl | 3 => rfl | _ + 4 => rfl) ?_
        exact (ih m hm).2.2.2.2.2.2.1 d x1 x2 (Int32.ofInt 0) S hD
    · intro d j3 x1 x2 S hD
      have hD := k72 x1 x2 S hD
      unfold D_X12_laysRing_72 at hD
      show u_P L xs n d m_X12_laysRing 72 [(0, .ref 100), (1, .int x1), (2, .int x2), (3, .int j3)] [] S R _
      refine u_st1 rfl (fun _ => rfl) (fun m hm => ?_)
      show u_P L xs m d m_X12_laysRing 73 [(0, .ref 100), (1, .int x1), (2, .int x2), (3, .int j3)] [.int x2] S R _
      refine u_if_le rfl (fun h1 => ?_) (fun h1 => ?_)
      · have hD := hD.1 h1
        show u_P L xs m d m_X12_laysRing 201 [(0, .ref 100), (1, .int x1), (2, .int x2), (3, .int j3)] [] S R _
        exact u_ret rfl rfl ⟨rfl, rfl, hD⟩
      · have hD := hD.2 h1
        show u_P L xs m d m_X12_laysRing 76 [(0, .ref 100), (1, .int x1), (2, .int x2), (3, .int j3)] [] S R _
        refine u_st rfl (fun _ => rfl) ?_
        refine u_st rfl (fun _ => rfl) ?_
        refine u_lc (b := [(0, .ref 100), (1, .int x1), (2, .int x2), (3, .int (Int32.ofInt 0))]) (show ([3, 0, 1, 2] : List Nat).Nodup by decide) (show ([0, 1, 2, 3] : List Nat).Nodup by decide) (fun i => match i with | 0 => rfl | 1 => rfl | 2 => rfl | 3 => rfl | _ + 4 => rfl) ?_
        exact (ih m hm).2.2.2.2.2.2.1 d x1 x2 (Int32.ofInt 0) S hD
    · intro d j3 j4 j5 x1 x2 S hD
      have hD := k72 x1 x2 S hD
      unfold D_X12_laysRing_72 at hD
      show u_P L xs n d m_X12_laysRing 72 [(0, .ref 100), (1, .int x1), (2, .int x2), (3, .int j3), (4, .int j4), (5, .int j5)] [] S R _
      refine u_st1 rfl (fun _ => rfl) (fun m hm => ?_)
      show u_P L xs m d m_X12_laysRing 73 [(0, .ref 100), (1, .int x1), (2, .int x2), (3, .int j3), (4, .int j4), (5, .int j5)] [.int x2] S R _
      refine u_if_le rfl (fun h1 => ?_) (fun h1 => ?_)
      · have hD := hD.1 h1
        show u_P L xs m d m_X12_laysRing 201 [(0, .ref 100), (1, .int x1), (2, .int x2), (3, .int j3), (4, .int j4), (5, .int j5)] [] S R _
        exact u_ret rfl rfl ⟨rfl, rfl, hD⟩
      · have hD := hD.2 h1
        show u_P L xs m d m_X12_laysRing 76 [(0, .ref 100), (1, .int x1), (2, .int x2), (3, .int j3), (4, .int j4), (5, .int j5)] [] S R _
        refine u_st rfl (fun _ => rfl) ?_
        refine u_st rfl (fun _ => rfl) ?_
        refine u_lc (b := [(0, .ref 100), (1, .int x1), (2, .int x2), (3, .int (Int32.ofInt 0)), (4, .int j4), (5, .int j5)]) (show ([3, 0, 1, 2, 4, 5] : List Nat).Nodup by decide) (show ([0, 1, 2, 3, 4, 5] : List Nat).Nodup by decide) (fun i => match i with | 0 => rfl | 1 => rfl | 2 => rfl | 3 => rfl | 4 => rfl | 5 => rfl | _ + 6 => rfl) ?_
        exact (ih m hm).2.2.2.2.2.2.2.1 d j4 j5 x1 x2 (Int32.ofInt 0) S hD
    · intro d x1 x2 x3 S hD
      have hD := k78 x1 x2 x3 S hD
      unfold D_X12_laysRing_78 at hD
      show u_P L xs n d m_X12_laysRing 78 [(0, .ref 100), (1, .int x1), (2, .int x2), (3, .int x3)] [] S R _
      refine u_st1 rfl (fun _ => rfl) (fun m hm => ?_)
      refine u_st rfl (fun _ => rfl) ?_
      show u_P L xs m d m_X12_laysRing 80 [(0, .ref 100), (1, .int x1), (2, .int x2), (3, .int x3)] [.int x1, .int x3] S R _
      refine u_ic_ge rfl (fun h1 => ?_) (fun h1 => ?_)
      · have hD := hD.1 h1
        show u_P L xs m d m_X12_laysRing 195 [(0, .ref 100), (1, .int x1), (2, .int x2), (3, .int x3)] [] S R _
        refine u_st rfl (fun _ => rfl) ?_
        refine u_st rfl (fun _ => rfl) ?_
        refine u_lc (b := [(0, .ref 100), (1, .int x1), (2, .int (x2 + (Int32.ofInt (-1)))), (3, .int x3)]) (show ([2, 0, 1, 3] : List Nat).Nodup by decide) (show ([0, 1, 2, 3] : List Nat).Nodup by decide) (fun i => match i with | 0 => rfl | 1 => rfl | 2 => rfl | 3 => rfl | _ + 4 => rfl) ?_
        exact (ih m hm).2.2.2.2.1 d x3 x1 (x2 + (Int32.ofInt (-1))) S hD
      · have hD := hD.2 h1
        show u_P L xs m d m_X12_laysRing 83 [(0, .ref 100), (1, .int x1), (2, .int x2), (3, .int x3)] [] S R _
        refine u_st rfl (fun _ => rfl) ?_
        refine u_st rfl (fun _ => rfl) ?_
        refine u_st rfl (fun _ => rfl) ?_
        refine u_st rfl (fun _ => rfl) ?_
        refine u_st rfl (fun _ => rfl) ?_
        refine u_st rfl (fun _ => rfl) ?_
        show u_P L xs m d m_X12_laysRing 89 [(0, .ref 100), (1, .int x1), (2, .int x2), (3, .int x3)] [.int (((Int32.ofInt 1) <<< (x1 &&& 31)) - (Int32.ofInt 1)), .int x2] S R _
        refine u_ic_ne rfl (fun h2 => ?_) (fun h2 => ?_)
        · have hD := hD.1 h2
          show u_P L xs m d m_X12_laysRing 112 [(0, .ref 100), (1, .int x1), (2, .int x2), (3, .int x3)] [] S R _
          refine u_st rfl (fun _ => rfl) ?_
          refine u_st rfl (fun _ => rfl) ?_
          refine u_st rfl (fun _ => rfl) ?_
          refine u_st rfl (fun _ => rfl) ?_
          refine u_lc (b := [(0, .ref 100), (1, .int x1), (2, .int x2), (3, .int x3), (4, .int (Int32.ofInt 0)), (5, .int (Int32.ofInt 1))]) (show ([5, 4, 0, 1, 2, 3] : List Nat).Nodup by decide) (show ([0, 1, 2, 3, 4, 5] : List Nat).Nodup by decide) (fun i => match i with | 0 => rfl | 1 => rfl | 2 => rfl | 3 => rfl | 4 => rfl | 5 => rfl | _ + 6 => rfl) ?_
          exact (ih m hm).2.2.2.2.2.2.2.2 d x1 x2 x3 (Int32.ofInt 0) (Int32.ofInt 1) S hD
        · have hD := hD.2 h2
          show u_P L xs m d m_X12_laysRing 92 [(0, .ref 100), (1, .int x1), (2, .int x2), (3, .int x3)] [] S R _
          refine u_st rfl (fun _ => rfl) ?_
          show u_P L xs m d m_X12_laysRing 93 [(0, .ref 100), (1, .int x1), (2, .int x2), (3, .int x3)] [.ref 100] S R _
          refine u_getr rfl v_tyM rfl ?_
          refine u_st rfl (fun _ => rfl) ?_
          refine u_st rfl (fun _ => rfl) ?_
          refine u_st rfl (fun _ => rfl) ?_
          show u_P L xs m d m_X12_laysRing 100 [(0, .ref 100), (1, .int x1), (2, .int x2), (3, .int x3)] [.int ((Int32.ofInt 8) * x3), .ref 173] S R _
          refine u_baldE (v := S 172 (((Int32.ofInt 8) * x3).toInt.toNat)) rfl rfl (by decide) rfl (fun b31 b32 => ?_)
          have hD := hD b31 b32
          show u_P L xs m d m_X12_laysRing 101 [(0, .ref 100), (1, .int x1), (2, .int x2), (3, .int x3)] [.int (S 172 (((Int32.ofInt 8) * x3).toInt.toNat))] S R _
          refine u_if_eq rfl (fun h4 => ?_) (fun h4 => ?_)
          · have hD := hD.1 h4
            show u_P L xs m d m_X12_laysRing 108 [(0, .ref 100), (1, .int x1), (2, .int x2), (3, .int x3)] [] S R _
            refine u_st rfl (fun _ => rfl) ?_
            refine u_st rfl (fun _ => rfl) ?_
            refine u_st rfl (fun _ => rfl) ?_
            refine u_st rfl (fun _ => rfl) ?_
            refine u_st rfl (fun _ => rfl) ?_
            refine u_lc (b := [(0, .ref 100), (1, .int x1), (2, .int x2), (3, .int x3), (4, .int (Int32.ofInt 0)), (5, .int (Int32.ofInt 1))]) (show ([5, 4, 0, 1, 2, 3] : List Nat).Nodup by decide) (show ([0, 1, 2, 3, 4, 5] : List Nat).Nodup by decide) (fun i => match i with | 0 => rfl | 1 => rfl | 2 => rfl | 3 => rfl | 4 => rfl | 5 => rfl | _ + 6 => rfl) ?_
            exact (ih m hm).2.2.2.2.2.2.2.2 d x1 x2 x3 (Int32.ofInt 0) (Int32.ofInt 1) S hD
          · have hD := hD.2 h4
            show u_P L xs m d m_X12_laysRing 104 [(0, .ref 100), (1, .int x1), (2, .int x2), (3, .int x3)] [] S R _
            refine u_st rfl (fun _ => rfl) ?_
            refine u_st rfl (fun _ => rfl) ?_
            refine u_st rfl (fun _ => rfl) ?_
            refine u_st rfl (fun _ => rfl) ?_
            refine u_st rfl (fun _ => rfl) ?_
            refine u_lc (b := [(0, .ref 100), (1, .int x1), (2, .int x2), (3, .int x3), (4, .int (Int32.ofInt 1)), (5, .int (Int32.ofInt 1))]) (show ([5, 4, 0, 1, 2, 3] : List Nat).Nodup by decide) (show ([0, 1, 2, 3, 4, 5] : List Nat).Nodup by decide) (fun i => match i with | 0 => rfl | 1 => rfl | 2 => rfl | 3 => rfl | 4 => rfl | 5 => rfl | _ + 6 => rfl) ?_
            exact (ih m hm).2.2.2.2.2.2.2.2 d x1 x2 x3 (Int32.ofInt 1) (Int32.ofInt 1) S hD
    · intro d j4 j5 x1 x2 x3 S hD
      have hD := k78 x1 x2 x3 S hD
      unfold D_X12_laysRing_78 at hD
      show u_P L xs n d m_X12_laysRing 78 [(0, .ref 100), (1, .int x1), (2, .int x2), (3, .int x3), (4, .int j4), (5, .int j5)] [] S R _
      refine u_st1 rfl (fun _ => rfl) (fun m hm => ?_)
      refine u_st rfl (fun _ => rfl) ?_
      show u_P L xs m d m_X12_laysRing 80 [(0, .ref 100), (1, .int x1), (2, .int x2), (3, .int x3), (4, .int j4), (5, .int j5)] [.int x1, .int x3] S R _
      refine u_ic_ge rfl (fun h1 => ?_) (fun h1 => ?_)
      · have hD := hD.1 h1
        show u_P L xs m d m_X12_laysRing 195 [(0, .ref 100), (1, .int x1), (2, .int x2), (3, .int x3), (4, .int j4), (5, .int j5)] [] S R _
        refine u_st rfl (fun _ => rfl) ?_
        refine u_st rfl (fun _ => rfl) ?_
        refine u_lc (b := [(0, .ref 100), (1, .int x1), (2, .int (x2 + (Int32.ofInt (-1)))), (3, .int x3), (4, .int j4), (5, .int j5)]) (show ([2, 0, 1, 3, 4, 5] : List Nat).Nodup by decide) (show ([0, 1, 2, 3, 4, 5] : List Nat).Nodup by decide) (fun i => match i with | 0 => rfl | 1 => rfl | 2 => rfl | 3 => rfl | 4 => rfl | 5 => rfl | _ + 6 => rfl) ?_
        exact (ih m hm).2.2.2.2.2.1 d x3 j4 j5 x1 (x2 + (Int32.ofInt (-1))) S hD
      · have hD := hD.2 h1
        show u_P L xs m d m_X12_laysRing 83 [(0, .ref 100), (1, .int x1), (2, .int x2), (3, .int x3), (4, .int j4), (5, .int j5)] [] S R _
        refine u_st rfl (fun _ => rfl) ?_
        refine u_st rfl (fun _ => rfl) ?_
        refine u_st rfl (fun _ => rfl) ?_
        refine u_st rfl (fun _ => rfl) ?_
        refine u_st rfl (fun _ => rfl) ?_
        refine u_st rfl (fun _ => rfl) ?_
        show u_P L xs m d m_X12_laysRing 89 [(0, .ref 100), (1, .int x1), (2, .int x2), (3, .int x3), (4, .int j4), (5, .int j5)] [.int (((Int32.ofInt 1) <<< (x1 &&& 31)) - (Int32.ofInt 1)), .int x2] S R _
        refine u_ic_ne rfl (fun h2 => ?_) (fun h2 => ?_)
        · have hD := hD.1 h2
          show u_P L xs m d m_X12_laysRing 112 [(0, .ref 100), (1, .int x1), (2, .int x2), (3, .int x3), (4, .int j4), (5, .int j5)] [] S R _
          refine u_st rfl (fun _ => rfl) ?_
          refine u_st rfl (fun _ => rfl) ?_
          refine u_st rfl (fun _ => rfl) ?_
          refine u_st rfl (fun _ => rfl) ?_
          refine u_lc (b := [(0, .ref 100), (1, .int x1), (2, .int x2), (3, .int x3), (4, .int (Int32.ofInt 0)), (5, .int (Int32.ofInt 1))]) (show ([5, 4, 0, 1, 2, 3] : List Nat).Nodup by decide) (show ([0, 1, 2, 3, 4, 5] : List Nat).Nodup by decide) (fun i => match i with | 0 => rfl | 1 => rfl | 2 => rfl | 3 => rfl | 4 => rfl | 5 => rfl | _ + 6 => rfl) ?_
          exact (ih m hm).2.2.2.2.2.2.2.2 d x1 x2 x3 (Int32.ofInt 0) (Int32.ofInt 1) S hD
        · have hD := hD.2 h2
          show u_P L xs m d m_X12_laysRing 92 [(0, .ref 100), (1, .int x1), (2, .int x2), (3, .int x3), (4, .int j4), (5, .int j5)] [] S R _
          refine u_st rfl (fun _ => rfl) ?_
          show u_P L xs m d m_X12_laysRing 93 [(0, .ref 100), (1, .int x1), (2, .int x2), (3, .int x3), (4, .int j4), (5, .int j5)] [.ref 100] S R _
          refine u_getr rfl v_tyM rfl ?_
          refine u_st rfl (fun _ => rfl) ?_
          refine u_st rfl (fun _ => rfl) ?_
          refine u_st rfl (fun _ => rfl) ?_
          show u_P L xs m d m_X12_laysRing 100 [(0, .ref 100), (1, .int x1), (2, .int x2), (3, .int x3), (4, .int j4), (5, .int j5)] [.int ((Int32.ofInt 8) * x3), .ref 173] S R _
          refine u_baldE (v := S 172 (((Int32.ofInt 8) * x3).toInt.toNat)) rfl rfl (by decide) rfl (fun b31 b32 => ?_)
          have hD := hD b31 b32
          show u_P L xs m d m_X12_laysRing 101 [(0, .ref 100), (1, .int x1), (2, .int x2), (3, .int x3), (4, .int j4), (5, .int j5)] [.int (S 172 (((Int32.ofInt 8) * x3).toInt.toNat))] S R _
          refine u_if_eq rfl (fun h4 => ?_) (fun h4 => ?_)
          · have hD := hD.1 h4
            show u_P L xs m d m_X12_laysRing 108 [(0, .ref 100), (1, .int x1), (2, .int x2), (3, .int x3), (4, .int j4), (5, .int j5)] [] S R _
            refine u_st rfl (fun _ => rfl) ?_
            refine u_st rfl (fun _ => rfl) ?_
            refine u_st rfl (fun _ => rfl) ?_
            refine u_st rfl (fun _ => rfl) ?_
            refine u_st rfl (fun _ => rfl) ?_
            refine u_lc (b := [(0, .ref 100), (1, .int x1), (2, .int x2), (3, .int x3), (4, .int (Int32.ofInt 0)), (5, .int (Int32.ofInt 1))]) (show ([5, 4, 0, 1, 2, 3] : List Nat).Nodup by decide) (show ([0, 1, 2, 3, 4, 5] : List Nat).Nodup by decide) (fun i => match i with | 0 => rfl | 1 => rfl | 2 => rfl | 3 => rfl | 4 => rfl | 5 => rfl | _ + 6 => rfl) ?_
            exact (ih m hm).2.2.2.2.2.2.2.2 d x1 x2 x3 (Int32.ofInt 0) (Int32.ofInt 1) S hD
          · have hD := hD.2 h4
            show u_P L xs m d m_X12_laysRing 104 [(0, .ref 100), (1, .int x1), (2, .int x2), (3, .int x3), (4, .int j4), (5, .int j5)] [] S R _
            refine u_st rfl (fun _ => rfl) ?_
            refine u_st rfl (fun _ => rfl) ?_
            refine u_st rfl (fun _ => rfl) ?_
            refine u_st rfl (fun _ => rfl) ?_
            refine u_st rfl (fun _ => rfl) ?_
            refine u_lc (b := [(0, .ref 100), (1, .int x1), (2, .int x2), (3, .int x3), (4, .int (Int32.ofInt 1)), (5, .int (Int32.ofInt 1))]) (show ([5, 4, 0, 1, 2, 3] : List Nat).Nodup by decide) (show ([0, 1, 2, 3, 4, 5] : List Nat).Nodup by decide) (fun i => match i with | 0 => rfl | 1 => rfl | 2 => rfl | 3 => rfl | 4 => rfl | 5 => rfl | _ + 6 => rfl) ?_
            exact (ih m hm).2.2.2.2.2.2.2.2 d x1 x2 x3 (Int32.ofInt 1) (Int32.ofInt 1) S hD
    · intro d x1 x2 x3 x4 x5 S hD
      have hD := k118 x1 x2 x3 x4 x5 S hD
      unfold D_X12_laysRing_118 at hD
      show u_P L xs n d m_X12_laysRing 118 [(0, .ref 100), (1, .int x1), (2, .int x2), (3, .int x3), (4, .int x4), (5, .int x5)] [] S R _
      refine u_st1 rfl (fun _ => rfl) (fun m hm => ?_)
      refine u_st rfl (fun _ => rfl) ?_
      show u_P L xs m d m_X12_laysRing 121 [(0, .ref 100), (1, .int x1), (2, .int x2), (3, .int x3), (4, .int x4), (5, .int x5)] [.int x1, .int x5] S R _
      refine u_ic_ge rfl (fun h1 => ?_) (fun h1 => ?_)
      · have hD := hD.1 h1
        show u_P L xs m d m_X12_laysRing 176 [(0, .ref 100), (1, .int x1), (2, .int x2), (3, .int x3), (4, .int x4), (5, .int x5)] [] S R _
        refine u_st rfl (fun _ => rfl) ?_
        show u_P L xs m d m_X12_laysRing 177 [(0, .ref 100), (1, .int x1), (2, .int x2), (3, .int x3), (4, .int x4), (5, .int x5)] [.ref 100] S R _
        refine u_getr rfl v_tyM rfl ?_
        refine u_st rfl (fun _ => rfl) ?_
        refine u_st rfl (fun _ => rfl) ?_
        refine u_st rfl (fun _ => rfl) ?_
        refine u_st rfl (fun _ => rfl) ?_
        refine u_st rfl (fun _ => rfl) ?_
        refine u_st rfl (fun _ => rfl) ?_
        show u_P L xs m d m_X12_laysRing 188 [(0, .ref 100), (1, .int x1), (2, .int x2), (3, .int x3), (4, .int x4), (5, .int x5)] [.int x4, .int (((Int32.ofInt 8) * x2) + x3), .ref 172] S R _
        refine u_iast rfl rfl (fun b21 b22 => ?_)
        have hD := hD b21 b22
        show u_P L xs m d m_X12_laysRing 189 [(0, .ref 100), (1, .int x1), (2, .int x2), (3, .int x3), (4, .int x4), (5, .int x5)] [] (z_s S 171 ((((Int32.ofInt 8) * x2) + x3).toInt.toNat) x4) R _
        refine u_st rfl (fun _ => rfl) ?_
        refine u_st rfl (fun _ => rfl) ?_
        refine u_lc (b := [(0, .ref 100), (1, .int x1), (2, .int x2), (3, .int (x3 + (Int32.ofInt 1))), (4, .int x4), (5, .int x5)]) (show ([3, 0, 1, 2, 4, 5] : List Nat).Nodup by decide) (show ([0, 1, 2, 3, 4, 5] : List Nat).Nodup by decide) (fun i => match i with | 0 => rfl | 1 => rfl | 2 => rfl | 3 => rfl | 4 => rfl | 5 => rfl | _ + 6 => rfl) ?_
        exact (ih m hm).2.2.2.2.2.2.2.1 d x4 x5 x1 x2 (x3 + (Int32.ofInt 1)) (z_s S 171 ((((Int32.ofInt 8) * x2) + x3).toInt.toNat) x4) hD
      · have hD := hD.2 h1
        show u_P L xs m d m_X12_laysRing 124 [(0, .ref 100), (1, .int x1), (2, .int x2), (3, .int x3), (4, .int x4), (5, .int x5)] [] S R _
        refine u_st rfl (fun _ => rfl) ?_
        refine u_st rfl (fun _ => rfl) ?_
        show u_P L xs m d m_X12_laysRing 127 [(0, .ref 100), (1, .int x1), (2, .int x2), (3, .int x3), (4, .int x4), (5, .int x5)] [.int x5, .int x2] S R _
        refine u_cs (ac := [.int x2, .int x5]) (rest := []) rfl (by decide) mt_X12_has (fun _ => rfl) (Nat.le_of_ble_eq_true rfl) (Nat.le_of_ble_eq_true rfl) (fun d' => c_X12_has L xs m d' x2 x5 S R) ?_
        rintro _ _ _ ⟨_, rfl, rfl, rfl, rfl⟩
        show u_P L xs m d m_X12_laysRing 130 [(0, .ref 100), (1, .int x1), (2, .int x2), (3, .int x3), (4, .int x4), (5, .int x5)] [.int (f_X12_has x2 x5)] S R _
        refine u_if_ne rfl (fun h3 => ?_) (fun h3 => ?_)
        · have hD := hD.1 h3
          show u_P L xs m d m_X12_laysRing 170 [(0, .ref 100), (1, .int x1), (2, .int x2), (3, .int x3), (4, .int x4), (5, .int x5)] [] S R _
          refine u_st rfl (fun _ => rfl) ?_
          refine u_st rfl (fun _ => rfl) ?_
          refine u_lc (b := [(0, .ref 100), (1, .int x1), (2, .int x2), (3, .int x3), (4, .int x4), (5, .int (x5 + (Int32.ofInt 1)))]) (show ([5, 0, 1, 2, 3, 4] : List Nat).Nodup by decide) (show ([0, 1, 2, 3, 4, 5] : List Nat).Nodup by decide) (fun i => match i with | 0 => rfl | 1 => rfl | 2 => rfl | 3 => rfl | 4 => rfl | 5 => rfl | _ + 6 => rfl) ?_
          exact (ih m hm).2.2.2.2.2.2.2.2 d x1 x2 x3 x4 (x5 + (Int32.ofInt 1)) S hD
        · have hD := hD.2 h3
          show u_P L xs m d m_X12_laysRing 133 [(0, .ref 100), (1, .int x1), (2, .int x2), (3, .int x3), (4, .int x4), (5, .int x5)] [] S R _
          refine u_st rfl (fun _ => rfl) ?_
          show u_P L xs m d m_X12_laysRing 134 [(0, .ref 100), (1, .int x1), (2, .int x2), (3, .int x3), (4, .int x4), (5, .int x5)] [.ref 100] S R _
          refine u_getr rfl v_tyM rfl ?_
          refine u_st rfl (fun _ => rfl) ?_
          refine u_st rfl (fun _ => rfl) ?_
          refine u_st rfl (fun _ => rfl) ?_
          refine u_st rfl (fun _ => rfl) ?_
          refine u_st rfl (fun _ => rfl) ?_
          show u_P L xs m d m_X12_laysRing 144 [(0, .ref 100), (1, .int x1), (2, .int x2), (3, .int x3), (4, .int x4), (5, .int x5)] [.int (((Int32.ofInt 8) * x3) + x5), .ref 173] S R _
          refine u_baldE (v := S 172 ((((Int32.ofInt 8) * x3) + x5).toInt.toNat)) rfl rfl (by decide) rfl (fun b41 b42 => ?_)
          have hD := hD b41 b42
          show u_P L xs m d m_X12_laysRing 145 [(0, .ref 100), (1, .int x1), (2, .int x2), (3, .int x3), (4, .int x4), (5, .int x5)] [.int (S 172 ((((Int32.ofInt 8) * x3) + x5).toInt.toNat))] S R _
          refine u_if_eq rfl (fun h5 => ?_) (fun h5 => ?_)
          · have hD := hD.1 h5
            show u_P L xs m d m_X12_laysRing 170 [(0, .ref 100), (1, .int x1), (2, .int x2), (3, .int x3), (4, .int x4), (5, .int x5)] [] S R _
            refine u_st rfl (fun _ => rfl) ?_
            refine u_st rfl (fun _ => rfl) ?_
            refine u_lc (b := [(0, .ref 100), (1, .int x1), (2, .int x2), (3, .int x3), (4, .int x4), (5, .int (x5 + (Int32.ofInt 1)))]) (show ([5, 0, 1, 2, 3, 4] : List Nat).Nodup by decide) (show ([0, 1, 2, 3, 4, 5] : List Nat).Nodup by decide) (fun i => match i with | 0 => rfl | 1 => rfl | 2 => rfl | 3 => rfl | 4 => rfl | 5 => rfl | _ + 6 => rfl) ?_
            exact (ih m hm).2.2.2.2.2.2.2.2 d x1 x2 x3 x4 (x5 + (Int32.ofInt 1)) S hD
          · have hD := hD.2 h5
            show u_P L xs m d m_X12_laysRing 148 [(0, .ref 100), (1, .int x1), (2, .int x2), (3, .int x3), (4, .int x4), (5, .int x5)] [] S R _
            refine u_st rfl (fun _ => rfl) ?_
            refine u_st rfl (fun _ => rfl) ?_
            show u_P L xs m d m_X12_laysRing 151 [(0, .ref 100), (1, .int x1), (2, .int x2), (3, .int x3), (4, .int x4), (5, .int x5)] [.ref 100, .int x4] S R _
            refine u_getr rfl v_tyM rfl ?_
            refine u_st rfl (fun _ => rfl) ?_
            refine u_st rfl (fun _ => rfl) ?_
            refine u_st rfl (fun _ => rfl) ?_
            refine u_st rfl (fun _ => rfl) ?_
            refine u_st rfl (fun _ => rfl) ?_
            refine u_st rfl (fun _ => rfl) ?_
            refine u_st rfl (fun _ => rfl) ?_
            refine u_st rfl (fun _ => rfl) ?_
            refine u_st rfl (fun _ => rfl) ?_
            show u_P L xs m d m_X12_laysRing 166 [(0, .ref 100), (1, .int x1), (2, .int x2), (3, .int x3), (4, .int x4), (5, .int x5)] [.int (((Int32.ofInt 8) * (x2 ||| ((Int32.ofInt 1) <<< (x5 &&& 31)))) + x5), .ref 172, .int x4] S R _
            refine u_ialdE (v := S 171 ((((Int32.ofInt 8) * (x2 ||| ((Int32.ofInt 1) <<< (x5 &&& 31)))) + x5).toInt.toNat)) rfl rfl rfl (fun b61 b62 => ?_)
            have hD := hD b61 b62
            show u_P L xs m d m_X12_laysRing 167 [(0, .ref 100), (1, .int x1), (2, .int x2), (3, .int x3), (4, .int x4), (5, .int x5)] [.int (S 171 ((((Int32.ofInt 8) * (x2 ||| ((Int32.ofInt 1) <<< (x5 &&& 31)))) + x5).toInt.toNat)), .int x4] S R _
            refine u_st rfl (fun _ => rfl) ?_
            refine u_st rfl (fun _ => rfl) ?_
            refine u_st rfl (fun _ => rfl) ?_
            refine u_st rfl (fun _ => rfl) ?_
            refine u_lc (b := [(0, .ref 100), (1, .int x1), (2, .int x2), (3, .int x3), (4, .int (x4 + (S 171 ((((Int32.ofInt 8) * (x2 ||| ((Int32.ofInt 1) <<< (x5 &&& 31)))) + x5).toInt.toNat)))), (5, .int (x5 + (Int32.ofInt 1)))]) (show ([5, 4, 0, 1, 2, 3] : List Nat).Nodup by decide) (show ([0, 1, 2, 3, 4, 5] : List Nat).Nodup by decide) (fun i => match i with | 0 => rfl | 1 => rfl | 2 => rfl | 3 => rfl | 4 => rfl | 5 => rfl | _ + 6 => rfl) ?_
            exact (ih m hm).2.2.2.2.2.2.2.2 d x1 x2 x3 (x4 + (S 171 ((((Int32.ofInt 8) * (x2 ||| ((Int32.ofInt 1) <<< (x5 &&& 31)))) + x5).toInt.toNat))) (x5 + (Int32.ofInt 1)) S hD
set_option maxRecDepth 4000 in
theorem w_X12_laysRing (L : Nat) (xs : Nat → Int32) {R : v_Rf} (a : Int32) (H2 : Int32 → Int32 → v_Sf → Prop) (H9 : Int32 → Int32 → Int32 → v_Sf → Prop) (H72 : Int32 → Int32 → v_Sf → Prop) (H78 : Int32 → Int32 → Int32 → v_Sf → Prop) (H118 : Int32 → Int32 → Int32 → Int32 → Int32 → v_Sf → Prop) (K : v_Sf → Prop) (k2 : ∀ (x1 : Int32) (x2 : Int32) (S : v_Sf), H2 x1 x2 S → D_X12_laysRing_2 H2 H9 H72 H78 H118 K x1 x2 S) (k9 : ∀ (x1 : Int32) (x2 : Int32) (x3 : Int32) (S : v_Sf), H9 x1 x2 x3 S → D_X12_laysRing_9 H2 H9 H72 H78 H118 K x1 x2 x3 S) (k72 : ∀ (x1 : Int32) (x2 : Int32) (S : v_Sf), H72 x1 x2 S → D_X12_laysRing_72 H2 H9 H72 H78 H118 K x1 x2 S) (k78 : ∀ (x1 : Int32) (x2 : Int32) (x3 : Int32) (S : v_Sf), H78 x1 x2 x3 S → D_X12_laysRing_78 H2 H9 H72 H78 H118 K x1 x2 x3 S) (k118 : ∀ (x1 : Int32) (x2 : Int32) (x3 : Int32) (x4 : Int32) (x5 : Int32) (S : v_Sf), H118 x1 x2 x3 x4 x5 S → D_X12_laysRing_118 H2 H9 H72 H78 H118 K x1 x2 x3 x4 x5 S) (n d : Nat) (S : v_Sf) (hD : D_X12_laysRing a H2 H9 H72 H78 H118 K S) : u_P L xs n d m_X12_laysRing 0 (lv_args 0 [.ref 100, .int a]) [] S R (z_V R K) := by
  unfold D_X12_laysRing at hD
  show u_P L xs n d m_X12_laysRing 0 [(0, .ref 100), (1, .int a)] [] S R _
  refine u_st rfl (fun _ => rfl) ?_
  refine u_st rfl (fun _ => rfl) ?_
  refine u_lc (b := [(0, .ref 100), (1, .int a), (2, .int (Int32.ofInt 0))]) (show ([2, 0, 1] : List Nat).Nodup by decide) (show ([0, 1, 2] : List Nat).Nodup by decide) (fun i => match i with | 0 => rfl | 1 => rfl | 2 => rfl | _ + 3 => rfl) ?_
  exact (hd_X12_laysRing L xs a H2 H9 H72 H78 H118 K k2 k9 k72 k78 k118 n).1 d a (Int32.ofInt 0) S hD
noncomputable def D_X12_round_92  (H92 : Int32 → Int32 → Int32 → Int32 → v_Sf → Prop) (H101 : Int32 → Int32 → Int32 → Int32 → Int32 → v_Sf → Prop) (K : Int32 → v_Sf → Prop) (x2 : Int32) (x4 : Int32) (x5 : Int32) (x6 : Int32) (S : v_Sf) : Prop := ((x2 ≤ x6 → (0 ≤ x5.toInt → x5.toInt < 12 → K (S 152 x5.toInt.toNat) S)) ∧ (¬ (x2 ≤ x6) → H101 x2 x4 x5 x6 (Int32.ofInt 1) S))
noncomputable def D_X12_round_101  (H92 : Int32 → Int32 → Int32 → Int32 → v_Sf → Prop) (H101 : Int32 → Int32 → Int32 → Int32 → Int32 → v_Sf → Prop) (K : Int32 → v_Sf → Prop) (x2 : Int32) (x4 : Int32) (x5 : Int32) (x6 : Int32) (x7 : Int32) (S : v_Sf) : Prop := (((¬ (f_X12_has x4 x7) = 0) → H101 x2 x4 x5 x6 (x7 + (Int32.ofInt 1)) S) ∧ (¬ (¬ (f_X12_has x4 x7) = 0) → (0 ≤ (((Int32.ofInt 8) * x5) + x7).toInt → (((Int32.ofInt 8) * x5) + x7).toInt < 64 → (((S 172 ((((Int32.ofInt 8) * x5) + x7).toInt.toNat)) = 0 → H101 x2 x4 x5 x6 (x7 + (Int32.ofInt 1)) S) ∧ (¬ ((S 172 ((((Int32.ofInt 8) * x5) + x7).toInt.toNat)) = 0) → (0 ≤ (((Int32.ofInt 8) * (x4 ||| ((Int32.ofInt 1) <<< (x7 &&& 31)))) + x7).toInt → (((Int32.ofInt 8) * (x4 ||| ((Int32.ofInt 1) <<< (x7 &&& 31)))) + x7).toInt < 2048 → (((¬ (S 171 ((((Int32.ofInt 8) * (x4 ||| ((Int32.ofInt 1) <<< (x7 &&& 31)))) + x7).toInt.toNat)) = 0) → H92 x2 (x4 ||| ((Int32.ofInt 1) <<< (x7 &&& 31))) x7 (x6 + (Int32.ofInt 1)) S) ∧ (¬ (¬ (S 171 ((((Int32.ofInt 8) * (x4 ||| ((Int32.ofInt 1) <<< (x7 &&& 31)))) + x7).toInt.toNat)) = 0) → H101 x2 x4 x5 x6 (x7 + (Int32.ofInt 1)) S))))))))
noncomputable def D_X12_round (Kp : v_Sf → Prop) (a : Int32) (b : Int32) (H92 : Int32 → Int32 → Int32 → Int32 → v_Sf → Prop) (H101 : Int32 → Int32 → Int32 → Int32 → Int32 → v_Sf → Prop) (K : Int32 → v_Sf → Prop) (S : v_Sf) : Prop := (((f_X12_areGusts a (Int32.ofInt 3) (Int32.ofInt 8) S) = 0 → K (Int32.ofInt (-1)) S) ∧ (¬ ((f_X12_areGusts a (Int32.ofInt 3) (Int32.ofInt 8) S) = 0) → ((b = (Int32.ofInt 20) → (∀ (S3 : v_Sf), Kp S3 → (0 ≤ (Int32.ofInt 8).toInt → (Int32.ofInt 8).toInt < 2048 → (((¬ (S3 171 8) = 0) → (0 ≤ (Int32.ofInt 8).toInt → (Int32.ofInt 8).toInt < 2048 → K (S3 171 8) S3)) ∧ (¬ (¬ (S3 171 8) = 0) → K (Int32.ofInt 0) S3))))) ∧ (¬ (b = (Int32.ofInt 20)) → (((¬ (z_in b 0 (((f_X12_sizeOf a) - (Int32.ofInt 1))).toInt) = 0) → (∀ (S11 : v_Sf), Kp S11 → (0 ≤ (Int32.ofInt 8).toInt → (Int32.ofInt 8).toInt < 2048 → (((¬ (S11 171 8) = 0) → H92 b (Int32.ofInt 1) (Int32.ofInt 0) (Int32.ofInt 0) S11) ∧ (¬ (¬ (S11 171 8) = 0) → K (Int32.ofInt (-2)) S11))))) ∧ (¬ (¬ (z_in b 0 (((f_X12_sizeOf a) - (Int32.ofInt 1))).toInt) = 0) → K (Int32.ofInt (-1)) S))))))
set_option maxRecDepth 4000 in
theorem hd_X12_round (L : Nat) (xs : Nat → Int32) {R : v_Rf} (a : Int32) (b : Int32) (H92 : Int32 → Int32 → Int32 → Int32 → v_Sf → Prop) (H101 : Int32 → Int32 → Int32 → Int32 → Int32 → v_Sf → Prop) (K : Int32 → v_Sf → Prop) (k92 : ∀ (x2 : Int32) (x4 : Int32) (x5 : Int32) (x6 : Int32) (S : v_Sf), H92 x2 x4 x5 x6 S → D_X12_round_92 H92 H101 K x2 x4 x5 x6 S) (k101 : ∀ (x2 : Int32) (x4 : Int32) (x5 : Int32) (x6 : Int32) (x7 : Int32) (S : v_Sf), H101 x2 x4 x5 x6 x7 S → D_X12_round_101 H92 H101 K x2 x4 x5 x6 x7 S) : ∀ n, (∀ (d : Nat) (j1 : Int32) (j3 : Int32) (x2 : Int32) (x4 : Int32) (x5 : Int32) (x6 : Int32) (S : v_Sf), H92 x2 x4 x5 x6 S → u_P L xs n d m_X12_round 92 [(0, .ref 100), (1, .int j1), (2, .int x2), (3, .int j3), (4, .int x4), (5, .int x5), (6, .int x6)] [] S R (z_Q R K)) ∧ (∀ (d : Nat) (j1 : Int32) (j3 : Int32) (j7 : Int32) (x2 : Int32) (x4 : Int32) (x5 : Int32) (x6 : Int32) (S : v_Sf), H92 x2 x4 x5 x6 S → u_P L xs n d m_X12_round 92 [(0, .ref 100), (1, .int j1), (2, .int x2), (3, .int j3), (4, .int x4), (5, .int x5), (6, .int x6), (7, .int j7)] [] S R (z_Q R K)) ∧ (∀ (d : Nat) (j1 : Int32) (j3 : Int32) (x2 : Int32) (x4 : Int32) (x5 : Int32) (x6 : Int32) (x7 : Int32) (S : v_Sf), H101 x2 x4 x5 x6 x7 S → u_P L xs n d m_X12_round 101 [(0, .ref 100), (1, .int j1), (2, .int x2), (3, .int j3), (4, .int x4), (5, .int x5), (6, .int x6), (7, .int x7)] [] S R (z_Q R K)) := by
  intro n
  induction n using Nat.strongRecOn with
  | ind n ih =>
    refine ⟨?_, ?_, ?_⟩
    · intro d j1 j3 x2 x4 x5 x6 S hD
      have hD := k92 x2 x4 x5 x6 S hD
      unfold D_X12_round_92 at hD
      show u_P L xs n d m_X12_round 92 [(0, .ref 100), (1, .int j1), (2, .int x2), (3, .int j3), (4, .int x4), (5, .int x5), (6, .int x6)] [] S R _
      refine u_st1 rfl (fun _ => rfl) (fun m hm => ?_)
      refine u_st rfl (fun _ => rfl) ?_
      show u_P L xs m d m_X12_round 95 [(0, .ref 100), (1, .int j1), (2, .int x2), (3, .int j3), (4, .int x4), (5, .int x5), (6, .int x6)] [.int x2, .int x6] S R _
      refine u_ic_ge rfl (fun h1 => ?_) (fun h1 => ?_)
      · have hD := hD.1 h1
        show u_P L xs m d m_X12_round 173 [(0, .ref 100), (1, .int j1), (2, .int x2), (3, .int j3), (4, .int x4), (5, .int x5), (6, .int x6)] [] S R _
        refine u_st rfl (fun _ => rfl) ?_
        show u_P L xs m d m_X12_round 174 [(0, .ref 100), (1, .int j1), (2, .int x2), (3, .int j3), (4, .int x4), (5, .int x5), (6, .int x6)] [.ref 100] S R _
        refine u_getr rfl v_tyM rfl ?_
        refine u_st rfl (fun _ => rfl) ?_
        show u_P L xs m d m_X12_round 179 [(0, .ref 100), (1, .int j1), (2, .int x2), (3, .int j3), (4, .int x4), (5, .int x5), (6, .int x6)] [.int x5, .ref 153] S R _
        refine u_ialdE (v := S 152 x5.toInt.toNat) rfl rfl rfl (fun b21 b22 => ?_)
        have hD := hD b21 b22
        show u_P L xs m d m_X12_round 180 [(0, .ref 100), (1, .int j1), (2, .int x2), (3, .int j3), (4, .int x4), (5, .int x5), (6, .int x6)] [.int (S 152 x5.toInt.toNat)] S R _
        exact u_ret rfl rfl ⟨_, rfl, rfl, hD⟩
      · have hD := hD.2 h1
        show u_P L xs m d m_X12_round 98 [(0, .ref 100), (1, .int j1), (2, .int x2), (3, .int j3), (4, .int x4), (5, .int x5), (6, .int x6)] [] S R _
        refine u_st rfl (fun _ => rfl) ?_
        refine u_st rfl (fun _ => rfl) ?_
        refine u_lc (b := [(0, .ref 100), (1, .int j1), (2, .int x2), (3, .int j3), (4, .int x4), (5, .int x5), (6, .int x6), (7, .int (Int32.ofInt 1))]) (show ([7, 0, 1, 2, 3, 4, 5, 6] : List Nat).Nodup by decide) (show ([0, 1, 2, 3, 4, 5, 6, 7] : List Nat).Nodup by decide) (fun i => match i with | 0 => rfl | 1 => rfl | 2 => rfl | 3 => rfl | 4 => rfl | 5 => rfl | 6 => rfl | 7 => rfl | _ + 8 => rfl) ?_
        exact (ih m hm).2.2 d j1 j3 x2 x4 x5 x6 (Int32.ofInt 1) S hD
    · intro d j1 j3 j7 x2 x4 x5 x6 S hD
      have hD := k92 x2 x4 x5 x6 S hD
      unfold D_X12_round_92 at hD
      show u_P L xs n d m_X12_round 92 [(0, .ref 100), (1, .int j1), (2, .int x2), (3, .int j3), (4, .int x4), (5, .int x5), (6, .int x6), (7, .int j7)] [] S R _
      refine u_st1 rfl (fun _ => rfl) (fun m hm => ?_)
      refine u_st rfl (fun _ => rfl) ?_
      show u_P L xs m d m_X12_round 95 [(0, .ref 100), (1, .int j1), (2, .int x2), (3, .int j3), (4, .int x4), (5, .int x5), (6, .int x6), (7, .int j7)] [.int x2, .int x6] S R _
      refine u_ic_ge rfl (fun h1 => ?_) (fun h1 => ?_)
      · have hD := hD.1 h1
        show u_P L xs m d m_X12_round 173 [(0, .ref 100), (1, .int j1), (2, .int x2), (3, .int j3), (4, .int x4), (5, .int x5), (6, .int x6), (7, .int j7)] [] S R _
        refine u_st rfl (fun _ => rfl) ?_
        show u_P L xs m d m_X12_round 174 [(0, .ref 100), (1, .int j1), (2, .int x2), (3, .int j3), (4, .int x4), (5, .int x5), (6, .int x6), (7, .int j7)] [.ref 100] S R _
        refine u_getr rfl v_tyM rfl ?_
        refine u_st rfl (fun _ => rfl) ?_
        show u_P L xs m d m_X12_round 179 [(0, .ref 100), (1, .int j1), (2, .int x2), (3, .int j3), (4, .int x4), (5, .int x5), (6, .int x6), (7, .int j7)] [.int x5, .ref 153] S R _
        refine u_ialdE (v := S 152 x5.toInt.toNat) rfl rfl rfl (fun b21 b22 => ?_)
        have hD := hD b21 b22
        show u_P L xs m d m_X12_round 180 [(0, .ref 100), (1, .int j1), (2, .int x2), (3, .int j3), (4, .int x4), (5, .int x5), (6, .int x6), (7, .int j7)] [.int (S 152 x5.toInt.toNat)] S R _
        exact u_ret rfl rfl ⟨_, rfl, rfl, hD⟩
      · have hD := hD.2 h1
        show u_P L xs m d m_X12_round 98 [(0, .ref 100), (1, .int j1), (2, .int x2), (3, .int j3), (4, .int x4), (5, .int x5), (6, .int x6), (7, .int j7)] [] S R _
        refine u_st rfl (fun _ => rfl) ?_
        refine u_st rfl (fun _ => rfl) ?_
        refine u_lc (b := [(0, .ref 100), (1, .int j1), (2, .int x2), (3, .int j3), (4, .int x4), (5, .int x5), (6, .int x6), (7, .int (Int32.ofInt 1))]) (show ([7, 0, 1, 2, 3, 4, 5, 6] : List Nat).Nodup by decide) (show ([0, 1, 2, 3, 4, 5, 6, 7] : List Nat).Nodup by decide) (fun i => match i with | 0 => rfl | 1 => rfl | 2 => rfl | 3 => rfl | 4 => rfl | 5 => rfl | 6 => rfl | 7 => rfl | _ + 8 => rfl) ?_
        exact (ih m hm).2.2 d j1 j3 x2 x4 x5 x6 (Int32.ofInt 1) S hD
    · intro d j1 j3 x2 x4 x5 x6 x7 S hD
      have hD := k101 x2 x4 x5 x6 x7 S hD
      unfold D_X12_round_101 at hD
      show u_P L xs n d m_X12_round 101 [(0, .ref 100), (1, .int j1), (2, .int x2), (3, .int j3), (4, .int x4), (5, .int x5), (6, .int x6), (7, .int x7)] [] S R _
      refine u_st1 rfl (fun _ => rfl) (fun m hm => ?_)
      refine u_st rfl (fun _ => rfl) ?_
      show u_P L xs m d m_X12_round 105 [(0, .ref 100), (1, .int j1), (2, .int x2), (3, .int j3), (4, .int x4), (5, .int x5), (6, .int x6), (7, .int x7)] [.int x7, .int x4] S R _
      refine u_cs (ac := [.int x4, .int x7]) (rest := []) rfl (by decide) mt_X12_has (fun _ => rfl) (Nat.le_of_ble_eq_true rfl) (Nat.le_of_ble_eq_true rfl) (fun d' => c_X12_has L xs m d' x4 x7 S R) ?_
      rintro _ _ _ ⟨_, rfl, rfl, rfl, rfl⟩
      show u_P L xs m d m_X12_round 108 [(0, .ref 100), (1, .int j1), (2, .int x2), (3, .int j3), (4, .int x4), (5, .int x5), (6, .int x6), (7, .int x7)] [.int (f_X12_has x4 x7)] S R _
      refine u_if_ne rfl (fun h1 => ?_) (fun h1 => ?_)
      · have hD := hD.1 h1
        show u_P L xs m d m_X12_round 148 [(0, .ref 100), (1, .int j1), (2, .int x2), (3, .int j3), (4, .int x4), (5, .int x5), (6, .int x6), (7, .int x7)] [] S R _
        refine u_st rfl (fun _ => rfl) ?_
        refine u_st rfl (fun _ => rfl) ?_
        refine u_lc (b := [(0, .ref 100), (1, .int j1), (2, .int x2), (3, .int j3), (4, .int x4), (5, .int x5), (6, .int x6), (7, .int (x7 + (Int32.ofInt 1)))]) (show ([7, 0, 1, 2, 3, 4, 5, 6] : List Nat).Nodup by decide) (show ([0, 1, 2, 3, 4, 5, 6, 7] : List Nat).Nodup by decide) (fun i => match i with | 0 => rfl | 1 => rfl | 2 => rfl | 3 => rfl | 4 => rfl | 5 => rfl | 6 => rfl | 7 => rfl | _ + 8 => rfl) ?_
        exact (ih m hm).2.2 d j1 j3 x2 x4 x5 x6 (x7 + (Int32.ofInt 1)) S hD
      · have hD := hD.2 h1
        show u_P L xs m d m_X12_round 111 [(0, .ref 100), (1, .int j1), (2, .int x2), (3, .int j3), (4, .int x4), (5, .int x5), (6, .int x6), (7, .int x7)] [] S R _
        refine u_st rfl (fun _ => rfl) ?_
        show u_P L xs m d m_X12_round 112 [(0, .ref 100), (1, .int j1), (2, .int x2), (3, .int j3), (4, .int x4), (5, .int x5), (6, .int x6), (7, .int x7)] [.ref 100] S R _
        refine u_getr rfl v_tyM rfl ?_
        refine u_st rfl (fun _ => rfl) ?_
        refine u_st rfl (fun _ => rfl) ?_
        refine u_st rfl (fun _ => rfl) ?_
        refine u_st rfl (fun _ => rfl) ?_
        refine u_st rfl (fun _ => rfl) ?_
        show u_P L xs m d m_X12_round 123 [(0, .ref 100), (1, .int j1), (2, .int x2), (3, .int j3), (4, .int x4), (5, .int x5), (6, .int x6), (7, .int x7)] [.int (((Int32.ofInt 8) * x5) + x7), .ref 173] S R _
        refine u_baldE (v := S 172 ((((Int32.ofInt 8) * x5) + x7).toInt.toNat)) rfl rfl (by decide) rfl (fun b21 b22 => ?_)
        have hD := hD b21 b22
        show u_P L xs m d m_X12_round 124 [(0, .ref 100), (1, .int j1), (2, .int x2), (3, .int j3), (4, .int x4), (5, .int x5), (6, .int x6), (7, .int x7)] [.int (S 172 ((((Int32.ofInt 8) * x5) + x7).toInt.toNat))] S R _
        refine u_if_eq rfl (fun h3 => ?_) (fun h3 => ?_)
        · have hD := hD.1 h3
          show u_P L xs m d m_X12_round 148 [(0, .ref 100), (1, .int j1), (2, .int x2), (3, .int j3), (4, .int x4), (5, .int x5), (6, .int x6), (7, .int x7)] [] S R _
          refine u_st rfl (fun _ => rfl) ?_
          refine u_st rfl (fun _ => rfl) ?_
          refine u_lc (b := [(0, .ref 100), (1, .int j1), (2, .int x2), (3, .int j3), (4, .int x4), (5, .int x5), (6, .int x6), (7, .int (x7 + (Int32.ofInt 1)))]) (show ([7, 0, 1, 2, 3, 4, 5, 6] : List Nat).Nodup by decide) (show ([0, 1, 2, 3, 4, 5, 6, 7] : List Nat).Nodup by decide) (fun i => match i with | 0 => rfl | 1 => rfl | 2 => rfl | 3 => rfl | 4 => rfl | 5 => rfl | 6 => rfl | 7 => rfl | _ + 8 => rfl) ?_
          exact (ih m hm).2.2 d j1 j3 x2 x4 x5 x6 (x7 + (Int32.ofInt 1)) S hD
        · have hD := hD.2 h3
          show u_P L xs m d m_X12_round 127 [(0, .ref 100), (1, .int j1), (2, .int x2), (3, .int j3), (4, .int x4), (5, .int x5), (6, .int x6), (7, .int x7)] [] S R _
          refine u_st rfl (fun _ => rfl) ?_
          show u_P L xs m d m_X12_round 128 [(0, .ref 100), (1, .int j1), (2, .int x2), (3, .int j3), (4, .int x4), (5, .int x5), (6, .int x6), (7, .int x7)] [.ref 100] S R _
          refine u_getr rfl v_tyM rfl ?_
          refine u_st rfl (fun _ => rfl) ?_
          refine u_st rfl (fun _ => rfl) ?_
          refine u_st rfl (fun _ => rfl) ?_
          refine u_st rfl (fun _ => rfl) ?_
          refine u_st rfl (fun _ => rfl) ?_
          refine u_st rfl (fun _ => rfl) ?_
          refine u_st rfl (fun _ => rfl) ?_
          refine u_st rfl (fun _ => rfl) ?_
          refine u_st rfl (fun _ => rfl) ?_
          show u_P L xs m d m_X12_round 144 [(0, .ref 100), (1, .int j1), (2, .int x2), (3, .int j3), (4, .int x4), (5, .int x5), (6, .int x6), (7, .int x7)] [.int (((Int32.ofInt 8) * (x4 ||| ((Int32.ofInt 1) <<< (x7 &&& 31)))) + x7), .ref 172] S R _
          refine u_ialdE (v := S 171 ((((Int32.ofInt 8) * (x4 ||| ((Int32.ofInt 1) <<< (x7 &&& 31)))) + x7).toInt.toNat)) rfl rfl rfl (fun b41 b42 => ?_)
          have hD := hD b41 b42
          show u_P L xs m d m_X12_round 145 [(0, .ref 100), (1, .int j1), (2, .int x2), (3, .int j3), (4, .int x4), (5, .int x5), (6, .int x6), (7, .int x7)] [.int (S 171 ((((Int32.ofInt 8) * (x4 ||| ((Int32.ofInt 1) <<< (x7 &&& 31)))) + x7).toInt.toNat))] S R _
          refine u_if_ne rfl (fun h5 => ?_) (fun h5 => ?_)
          · have hD := hD.1 h5
            show u_P L xs m d m_X12_round 154 [(0, .ref 100), (1, .int j1), (2, .int x2), (3, .int j3), (4, .int x4), (5, .int x5), (6, .int x6), (7, .int x7)] [] S R _
            refine u_st rfl (fun _ => rfl) ?_
            refine u_st rfl (fun _ => rfl) ?_
            refine u_st rfl (fun _ => rfl) ?_
            refine u_st rfl (fun _ => rfl) ?_
            refine u_st rfl (fun _ => rfl) ?_
            refine u_st rfl (fun _ => rfl) ?_
            refine u_st rfl (fun _ => rfl) ?_
            refine u_st rfl (fun _ => rfl) ?_
            refine u_st rfl (fun _ => rfl) ?_
            refine u_st rfl (fun _ => rfl) ?_
            refine u_lc (b := [(0, .ref 100), (1, .int j1), (2, .int x2), (3, .int j3), (4, .int (x4 ||| ((Int32.ofInt 1) <<< (x7 &&& 31)))), (5, .int x7), (6, .int (x6 + (Int32.ofInt 1))), (7, .int x7)]) (show ([6, 5, 4, 0, 1, 2, 3, 7] : List Nat).Nodup by decide) (show ([0, 1, 2, 3, 4, 5, 6, 7] : List Nat).Nodup by decide) (fun i => match i with | 0 => rfl | 1 => rfl | 2 => rfl | 3 => rfl | 4 => rfl | 5 => rfl | 6 => rfl | 7 => rfl | _ + 8 => rfl) ?_
            exact (ih m hm).2.1 d j1 j3 x7 x2 (x4 ||| ((Int32.ofInt 1) <<< (x7 &&& 31))) x7 (x6 + (Int32.ofInt 1)) S hD
          · have hD := hD.2 h5
            show u_P L xs m d m_X12_round 148 [(0, .ref 100), (1, .int j1), (2, .int x2), (3, .int j3), (4, .int x4), (5, .int x5), (6, .int x6), (7, .int x7)] [] S R _
            refine u_st rfl (fun _ => rfl) ?_
            refine u_st rfl (fun _ => rfl) ?_
            refine u_lc (b := [(0, .ref 100), (1, .int j1), (2, .int x2), (3, .int j3), (4, .int x4), (5, .int x5), (6, .int x6), (7, .int (x7 + (Int32.ofInt 1)))]) (show ([7, 0, 1, 2, 3, 4, 5, 6] : List Nat).Nodup by decide) (show ([0, 1, 2, 3, 4, 5, 6, 7] : List Nat).Nodup by decide) (fun i => match i with | 0 => rfl | 1 => rfl | 2 => rfl | 3 => rfl | 4 => rfl | 5 => rfl | 6 => rfl | 7 => rfl | _ + 8 => rfl) ?_
            exact (ih m hm).2.2 d j1 j3 x2 x4 x5 x6 (x7 + (Int32.ofInt 1)) S hD
set_option maxRecDepth 4000 in
theorem w_X12_round (L : Nat) (xs : Nat → Int32) {R : v_Rf} (a : Int32) (b : Int32) (H92 : Int32 → Int32 → Int32 → Int32 → v_Sf → Prop) (H101 : Int32 → Int32 → Int32 → Int32 → Int32 → v_Sf → Prop) (K : Int32 → v_Sf → Prop) (k92 : ∀ (x2 : Int32) (x4 : Int32) (x5 : Int32) (x6 : Int32) (S : v_Sf), H92 x2 x4 x5 x6 S → D_X12_round_92 H92 H101 K x2 x4 x5 x6 S) (k101 : ∀ (x2 : Int32) (x4 : Int32) (x5 : Int32) (x6 : Int32) (x7 : Int32) (S : v_Sf), H101 x2 x4 x5 x6 x7 S → D_X12_round_101 H92 H101 K x2 x4 x5 x6 x7 S) (n d : Nat) (S : v_Sf) (Kp : v_Sf → Prop) (hlp : ¬ (f_X12_areGusts a (Int32.ofInt 3) (Int32.ofInt 8) S) = 0 → ∀ n d, u_P L xs n d m_X12_laysRing 0 (lv_args 0 [.ref 100, .int (f_X12_takesSome a S)]) [] (g_X12_takesSome a S) R (z_V R Kp)) (hD : D_X12_round Kp a b H92 H101 K S) : u_P L xs n d m_X12_round 0 (lv_args 0 [.ref 100, .int a, .int b]) [] S R (z_Q R K) := by
  unfold D_X12_round at hD
  show u_P L xs n d m_X12_round 0 [(0, .ref 100), (1, .int a), (2, .int b)] [] S R _
  refine u_st rfl (fun _ => rfl) ?_
  refine u_st rfl (fun _ => rfl) ?_
  refine u_st rfl (fun _ => rfl) ?_
  refine u_st rfl (fun _ => rfl) ?_
  show u_P L xs n d m_X12_round 5 [(0, .ref 100), (1, .int a), (2, .int b)] [.int (Int32.ofInt 8), .int (Int32.ofInt 3), .int a, .ref 100] S R _
  refine u_cv (rest := []) rfl (by decide) mt_X12_areGusts v_tyM rfl rfl rfl (Nat.le_of_ble_eq_true rfl) (Nat.le_of_ble_eq_true rfl) (Nat.le_of_ble_eq_true rfl) (fun d' => c_X12_areGusts L xs n d' a (Int32.ofInt 3) (Int32.ofInt 8) S R) ?_
  rintro _ _ _ ⟨_, rfl, rfl, rfl, rfl⟩
  show u_P L xs n d m_X12_round 8 [(0, .ref 100), (1, .int a), (2, .int b)] [.int (f_X12_areGusts a (Int32.ofInt 3) (Int32.ofInt 8) S)] S R _
  refine u_if_eq rfl (fun h1 => ?_) (fun h1 => ?_)
  · have hD := hD.1 h1
    show u_P L xs n d m_X12_round 33 [(0, .ref 100), (1, .int a), (2, .int b)] [] S R _
    refine u_st rfl (fun _ => rfl) ?_
    show u_P L xs n d m_X12_round 34 [(0, .ref 100), (1, .int a), (2, .int b)] [.int (Int32.ofInt (-1))] S R _
    exact u_ret rfl rfl ⟨_, rfl, rfl, hD⟩
  · have hD := hD.2 h1
    show u_P L xs n d m_X12_round 11 [(0, .ref 100), (1, .int a), (2, .int b)] [] S R _
    refine u_st rfl (fun _ => rfl) ?_
    refine u_st rfl (fun _ => rfl) ?_
    show u_P L xs n d m_X12_round 14 [(0, .ref 100), (1, .int a), (2, .int b)] [.int (Int32.ofInt 20), .int b] S R _
    refine u_ic_eq rfl (fun h2 => ?_) (fun h2 => ?_)
    · have hD := hD.1 h2
      show u_P L xs n d m_X12_round 35 [(0, .ref 100), (1, .int a), (2, .int b)] [] S R _
      refine u_st rfl (fun _ => rfl) ?_
      refine u_st rfl (fun _ => rfl) ?_
      show u_P L xs n d m_X12_round 37 [(0, .ref 100), (1, .int a), (2, .int b)] [.int a, .ref 100] S R _
      refine u_cv (rest := []) rfl (by decide) mt_X12_takesSome v_tyM rfl rfl rfl (Nat.le_of_ble_eq_true rfl) (Nat.le_of_ble_eq_true rfl) (Nat.le_of_ble_eq_true rfl) (fun d' => c_X12_takesSome L xs n d' a S R) ?_
      rintro _ _ _ ⟨_, rfl, rfl, rfl, rfl⟩
      refine u_st rfl (fun _ => rfl) ?_
      refine u_st rfl (fun _ => rfl) ?_
      refine u_st rfl (fun _ => rfl) ?_
      show u_P L xs n d m_X12_round 43 [(3, .int (f_X12_takesSome a S)), (0, .ref 100), (1, .int a), (2, .int b)] [.int (f_X12_takesSome a S), .ref 100] (g_X12_takesSome a S) R _
      refine u_cv (rest := []) rfl (by decide) mt_X12_laysRing v_tyM rfl rfl rfl (Nat.le_of_ble_eq_true rfl) (Nat.le_of_ble_eq_true rfl) (Nat.le_of_ble_eq_true rfl) (fun d' => hlp h1 n d') ?_
      rintro _ S3 _ ⟨rfl, rfl, q4⟩
      have hD := hD S3 q4
      show u_P L xs n d m_X12_round 46 [(3, .int (f_X12_takesSome a S)), (0, .ref 100), (1, .int a), (2, .int b)] [] S3 R _
      refine u_st rfl (fun _ => rfl) ?_
      show u_P L xs n d m_X12_round 47 [(3, .int (f_X12_takesSome a S)), (0, .ref 100), (1, .int a), (2, .int b)] [.ref 100] S3 R _
      refine u_getr rfl v_tyM rfl ?_
      refine u_st rfl (fun _ => rfl) ?_
      show u_P L xs n d m_X12_round 52 [(3, .int (f_X12_takesSome a S)), (0, .ref 100), (1, .int a), (2, .int b)] [.int (Int32.ofInt 8), .ref 172] S3 R _
      refine u_ialdE (v := S3 171 8) rfl rfl rfl (fun b51 b52 => ?_)
      have hD := hD b51 b52
      show u_P L xs n d m_X12_round 53 [(3, .int (f_X12_takesSome a S)), (0, .ref 100), (1, .int a), (2, .int b)] [.int (S3 171 8)] S3 R _
      refine u_if_ne rfl (fun h6 => ?_) (fun h6 => ?_)
      · have hD := hD.1 h6
        show u_P L xs n d m_X12_round 69 [(3, .int (f_X12_takesSome a S)), (0, .ref 100), (1, .int a), (2, .int b)] [] S3 R _
        refine u_st rfl (fun _ => rfl) ?_
        refine u_st rfl (fun _ => rfl) ?_
        show u_P L xs n d m_X12_round 72 [(3, .int (f_X12_takesSome a S)), (0, .ref 100), (1, .int a), (2, .int b)] [.int (Int32.ofInt 20), .int b] S3 R _
        refine u_ic_ne rfl (fun h7 => absurd h2 h7) (fun _ => ?_)
        show u_P L xs n d m_X12_round 75 [(3, .int (f_X12_takesSome a S)), (0, .ref 100), (1, .int a), (2, .int b)] [] S3 R _
        refine u_st rfl (fun _ => rfl) ?_
        show u_P L xs n d m_X12_round 76 [(3, .int (f_X12_takesSome a S)), (0, .ref 100), (1, .int a), (2, .int b)] [.ref 100] S3 R _
        refine u_getr rfl v_tyM rfl ?_
        refine u_st rfl (fun _ => rfl) ?_
        show u_P L xs n d m_X12_round 81 [(3, .int (f_X12_takesSome a S)), (0, .ref 100), (1, .int a), (2, .int b)] [.int (Int32.ofInt 8), .ref 172] S3 R _
        refine u_ialdE (v := S3 171 8) rfl rfl rfl (fun b81 b82 => ?_)
        have hD := hD b81 b82
        show u_P L xs n d m_X12_round 82 [(3, .int (f_X12_takesSome a S)), (0, .ref 100), (1, .int a), (2, .int b)] [.int (S3 171 8)] S3 R _
        exact u_ret rfl rfl ⟨_, rfl, rfl, hD⟩
      · have hD := hD.2 h6
        show u_P L xs n d m_X12_round 56 [(3, .int (f_X12_takesSome a S)), (0, .ref 100), (1, .int a), (2, .int b)] [] S3 R _
        refine u_st rfl (fun _ => rfl) ?_
        refine u_st rfl (fun _ => rfl) ?_
        show u_P L xs n d m_X12_round 59 [(3, .int (f_X12_takesSome a S)), (0, .ref 100), (1, .int a), (2, .int b)] [.int (Int32.ofInt 20), .int b] S3 R _
        refine u_ic_ne rfl (fun h9 => absurd h2 h9) (fun _ => ?_)
        show u_P L xs n d m_X12_round 62 [(3, .int (f_X12_takesSome a S)), (0, .ref 100), (1, .int a), (2, .int b)] [] S3 R _
        refine u_st rfl (fun _ => rfl) ?_
        refine u_st rfl (fun _ => rfl) ?_
        show u_P L xs n d m_X12_round 68 [(3, .int (f_X12_takesSome a S)), (0, .ref 100), (1, .int a), (2, .int b)] [.int (Int32.ofInt 0)] S3 R _
        exact u_ret rfl rfl ⟨_, rfl, rfl, hD⟩
    · have hD := hD.2 h2
      show u_P L xs n d m_X12_round 17 [(0, .ref 100), (1, .int a), (2, .int b)] [] S R _
      refine u_st rfl (fun _ => rfl) ?_
      refine u_st rfl (fun _ => rfl) ?_
      refine u_st rfl (fun _ => rfl) ?_
      refine u_st rfl (fun _ => rfl) ?_
      show u_P L xs n d m_X12_round 21 [(0, .ref 100), (1, .int a), (2, .int b)] [.int a, .long (Int64.ofNat 0), .long b.toInt64] S R _
      refine u_cs (ac := [.int a]) (rest := [.long (Int64.ofNat 0), .long b.toInt64]) rfl (by decide) mt_X12_sizeOf (fun _ => rfl) (Nat.le_of_ble_eq_true rfl) (Nat.le_of_ble_eq_true rfl) (fun d' => c_X12_sizeOf L xs n d' a S R) ?_
      rintro _ _ _ ⟨_, rfl, rfl, rfl, rfl⟩
      refine u_st rfl (fun _ => rfl) ?_
      refine u_st rfl (fun _ => rfl) ?_
      refine u_st rfl (fun _ => rfl) ?_
      show u_P L xs n d m_X12_round 27 [(0, .ref 100), (1, .int a), (2, .int b)] [.long (((f_X12_sizeOf a) - (Int32.ofInt 1)).toInt64), .long (Int64.ofNat 0), .long b.toInt64] S R _
      refine u_cs (ac := [.long b.toInt64, .long (Int64.ofNat 0), .long (((f_X12_sizeOf a) - (Int32.ofInt 1)).toInt64)]) (rest := []) rfl (by decide) mt_X12_lies (fun _ => rfl) (Nat.le_of_ble_eq_true rfl) (Nat.le_of_ble_eq_true rfl) (fun d' => z_liesC L xs n d' b (Int64.ofNat 0) (((f_X12_sizeOf a) - (Int32.ofInt 1)).toInt64) (lo := 0) (hi := (((f_X12_sizeOf a) - (Int32.ofInt 1))).toInt) rfl (q_i2l _) S R) ?_
      rintro _ _ _ ⟨_, rfl, rfl, rfl, rfl⟩
      show u_P L xs n d m_X12_round 30 [(0, .ref 100), (1, .int a), (2, .int b)] [.int (z_in b 0 (((f_X12_sizeOf a) - (Int32.ofInt 1))).toInt)] S R _
      refine u_if_ne rfl (fun h10 => ?_) (fun h10 => ?_)
      · have hD := hD.1 h10
        show u_P L xs n d m_X12_round 35 [(0, .ref 100), (1, .int a), (2, .int b)] [] S R _
        refine u_st rfl (fun _ => rfl) ?_
        refine u_st rfl (fun _ => rfl) ?_
        show u_P L xs n d m_X12_round 37 [(0, .ref 100), (1, .int a), (2, .int b)] [.int a, .ref 100] S R _
        refine u_cv (rest := []) rfl (by decide) mt_X12_takesSome v_tyM rfl rfl rfl (Nat.le_of_ble_eq_true rfl) (Nat.le_of_ble_eq_true rfl) (Nat.le_of_ble_eq_true rfl) (fun d' => c_X12_takesSome L xs n d' a S R) ?_
        rintro _ _ _ ⟨_, rfl, rfl, rfl, rfl⟩
        refine u_st rfl (fun _ => rfl) ?_
        refine u_st rfl (fun _ => rfl) ?_
        refine u_st rfl (fun _ => rfl) ?_
        show u_P L xs n d m_X12_round 43 [(3, .int (f_X12_takesSome a S)), (0, .ref 100), (1, .int a), (2, .int b)] [.int (f_X12_takesSome a S), .ref 100] (g_X12_takesSome a S) R _
        refine u_cv (rest := []) rfl (by decide) mt_X12_laysRing v_tyM rfl rfl rfl (Nat.le_of_ble_eq_true rfl) (Nat.le_of_ble_eq_true rfl) (Nat.le_of_ble_eq_true rfl) (fun d' => hlp h1 n d') ?_
        rintro _ S11 _ ⟨rfl, rfl, q12⟩
        have hD := hD S11 q12
        show u_P L xs n d m_X12_round 46 [(3, .int (f_X12_takesSome a S)), (0, .ref 100), (1, .int a), (2, .int b)] [] S11 R _
        refine u_st rfl (fun _ => rfl) ?_
        show u_P L xs n d m_X12_round 47 [(3, .int (f_X12_takesSome a S)), (0, .ref 100), (1, .int a), (2, .int b)] [.ref 100] S11 R _
        refine u_getr rfl v_tyM rfl ?_
        refine u_st rfl (fun _ => rfl) ?_
        show u_P L xs n d m_X12_round 52 [(3, .int (f_X12_takesSome a S)), (0, .ref 100), (1, .int a), (2, .int b)] [.int (Int32.ofInt 8), .ref 172] S11 R _
        refine u_ialdE (v := S11 171 8) rfl rfl rfl (fun b131 b132 => ?_)
        have hD := hD b131 b132
        show u_P L xs n d m_X12_round 53 [(3, .int (f_X12_takesSome a S)), (0, .ref 100), (1, .int a), (2, .int b)] [.int (S11 171 8)] S11 R _
        refine u_if_ne rfl (fun h14 => ?_) (fun h14 => ?_)
        · have hD := hD.1 h14
          show u_P L xs n d m_X12_round 69 [(3, .int (f_X12_takesSome a S)), (0, .ref 100), (1, .int a), (2, .int b)] [] S11 R _
          refine u_st rfl (fun _ => rfl) ?_
          refine u_st rfl (fun _ => rfl) ?_
          show u_P L xs n d m_X12_round 72 [(3, .int (f_X12_takesSome a S)), (0, .ref 100), (1, .int a), (2, .int b)] [.int (Int32.ofInt 20), .int b] S11 R _
          refine u_ic_ne rfl (fun _ => ?_) (fun h15 => absurd h2 h15)
          show u_P L xs n d m_X12_round 83 [(3, .int (f_X12_takesSome a S)), (0, .ref 100), (1, .int a), (2, .int b)] [] S11 R _
          refine u_st rfl (fun _ => rfl) ?_
          refine u_st rfl (fun _ => rfl) ?_
          refine u_st rfl (fun _ => rfl) ?_
          refine u_st rfl (fun _ => rfl) ?_
          refine u_st rfl (fun _ => rfl) ?_
          refine u_st rfl (fun _ => rfl) ?_
          refine u_lc (b := [(0, .ref 100), (1, .int a), (2, .int b), (3, .int (f_X12_takesSome a S)), (4, .int (Int32.ofInt 1)), (5, .int (Int32.ofInt 0)), (6, .int (Int32.ofInt 0))]) (show ([6, 5, 4, 3, 0, 1, 2] : List Nat).Nodup by decide) (show ([0, 1, 2, 3, 4, 5, 6] : List Nat).Nodup by decide) (fun i => match i with | 0 => rfl | 1 => rfl | 2 => rfl | 3 => rfl | 4 => rfl | 5 => rfl | 6 => rfl | _ + 7 => rfl) ?_
          exact (hd_X12_round L xs a b H92 H101 K k92 k101 n).1 d a (f_X12_takesSome a S) b (Int32.ofInt 1) (Int32.ofInt 0) (Int32.ofInt 0) S11 hD
        · have hD := hD.2 h14
          show u_P L xs n d m_X12_round 56 [(3, .int (f_X12_takesSome a S)), (0, .ref 100), (1, .int a), (2, .int b)] [] S11 R _
          refine u_st rfl (fun _ => rfl) ?_
          refine u_st rfl (fun _ => rfl) ?_
          show u_P L xs n d m_X12_round 59 [(3, .int (f_X12_takesSome a S)), (0, .ref 100), (1, .int a), (2, .int b)] [.int (Int32.ofInt 20), .int b] S11 R _
          refine u_ic_ne rfl (fun _ => ?_) (fun h16 => absurd h2 h16)
          show u_P L xs n d m_X12_round 66 [(3, .int (f_X12_takesSome a S)), (0, .ref 100), (1, .int a), (2, .int b)] [] S11 R _
          refine u_st rfl (fun _ => rfl) ?_
          show u_P L xs n d m_X12_round 68 [(3, .int (f_X12_takesSome a S)), (0, .ref 100), (1, .int a), (2, .int b)] [.int (Int32.ofInt (-2))] S11 R _
          exact u_ret rfl rfl ⟨_, rfl, rfl, hD⟩
      · have hD := hD.2 h10
        show u_P L xs n d m_X12_round 33 [(0, .ref 100), (1, .int a), (2, .int b)] [] S R _
        refine u_st rfl (fun _ => rfl) ?_
        show u_P L xs n d m_X12_round 34 [(0, .ref 100), (1, .int a), (2, .int b)] [.int (Int32.ofInt (-1))] S R _
        exact u_ret rfl rfl ⟨_, rfl, rfl, hD⟩
