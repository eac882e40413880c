/-! the ring: the class's words -/
noncomputable abbrev m_X4_waysOn : g_M := (g_cn 4, yX4_waysOn, cX4_waysOn, 6, (some .int), g_look2 ttX4_waysOn)
set_option maxRecDepth 20000 in
theorem mt_X4_waysOn : g_mt 56 = some m_X4_waysOn := rfl
noncomputable def D_X4_waysOn_30  (H30 : Int32 → Int32 → Int32 → Int32 → v_Sf → Prop) (K : Int32 → v_Sf → Prop) (x1 : Int32) (x2 : Int32) (x4 : Int32) (x5 : Int32) (S : v_Sf) : Prop := (((S 76 4) ≤ x5 → K x4 S) ∧ (¬ ((S 76 4) ≤ x5) → (((Int32.ofInt 8) ≤ x5 → K x4 S) ∧ (¬ ((Int32.ofInt 8) ≤ x5) → (0 ≤ x2.toInt → x2.toInt < 8 → (((¬ (f_X11_isIn (x1 ||| (S 79 x2.toInt.toNat)) x5) = 0) → H30 x1 x2 x4 (x5 + (Int32.ofInt 1)) S) ∧ (¬ (¬ (f_X11_isIn (x1 ||| (S 79 x2.toInt.toNat)) x5) = 0) → (0 ≤ (((x1 ||| ((Int32.ofInt 1) <<< (x5 &&& 31))) * (Int32.ofInt 8)) + x5).toInt → (((x1 ||| ((Int32.ofInt 1) <<< (x5 &&& 31))) * (Int32.ofInt 8)) + x5).toInt < 2048 → H30 x1 x2 (x4 + (S 85 ((((x1 ||| ((Int32.ofInt 1) <<< (x5 &&& 31))) * (Int32.ofInt 8)) + x5).toInt.toNat))) (x5 + (Int32.ofInt 1)) S))))))))
noncomputable def D_X4_waysOn (a : Int32) (b : Int32) (i : Int32) (H30 : Int32 → Int32 → Int32 → Int32 → v_Sf → Prop) (K : Int32 → v_Sf → Prop) (S : v_Sf) : Prop := (((¬ a = i) → H30 a b (Int32.ofInt 0) (Int32.ofInt 1) S) ∧ (¬ (¬ a = i) → (0 ≤ b.toInt → b.toInt < 8 → (((f_X11_isIn (S 79 b.toInt.toNat) (Int32.ofInt 0)) = 0 → K (Int32.ofInt 1) S) ∧ (¬ ((f_X11_isIn (S 79 b.toInt.toNat) (Int32.ofInt 0)) = 0) → K (Int32.ofInt 0) S)))))
set_option maxRecDepth 4000 in
theorem hd_X4_waysOn (L : Nat) (xs : Nat → Int32) {R : v_Rf} (a : Int32) (b : Int32) (i : Int32) (H30 : Int32 → Int32 → Int32 → Int32 → v_Sf → Prop) (K : Int32 → v_Sf → Prop) (k30 : ∀ (x1 : Int32) (x2 : Int32) (x4 : Int32) (x5 : Int32) (S : v_Sf), H30 x1 x2 x4 x5 S → D_X4_waysOn_30 H30 K x1 x2 x4 x5 S) : ∀ n, (∀ (d : Nat) (j3 : Int32) (x1 : Int32) (x2 : Int32) (x4 : Int32) (x5 : Int32) (S : v_Sf), H30 x1 x2 x4 x5 S → u_P L xs n d m_X4_waysOn 30 [(0, .ref 77), (1, .int x1), (2, .int x2), (3, .int j3), (4, .int x4), (5, .int x5)] [] S R (z_Q R K)) := by
  intro n
  induction n using Nat.strongRecOn with
  | ind n ih =>
    intro d j3 x1 x2 x4 x5 S hD
    have hD := k30 x1 x2 x4 x5 S hD
    unfold D_X4_waysOn_30 at hD
    show u_P L xs n d m_X4_waysOn 30 [(0, .ref 77), (1, .int x1), (2, .int x2), (3, .int j3), (4, .int x4), (5, .int x5)] [] S R _
    refine u_st1 rfl (fun _ => rfl) (fun m hm => ?_)
    refine u_st rfl (fun _ => rfl) ?_
    show u_P L xs m d m_X4_waysOn 33 [(0, .ref 77), (1, .int x1), (2, .int x2), (3, .int j3), (4, .int x4), (5, .int x5)] [.ref 77, .int x5] S R _
    refine u_getE (v := S 76 4) rfl rfl rfl rfl ?_
    show u_P L xs m d m_X4_waysOn 36 [(0, .ref 77), (1, .int x1), (2, .int x2), (3, .int j3), (4, .int x4), (5, .int x5)] [.int (S 76 4), .int x5] S R _
    refine u_ic_ge rfl (fun h1 => ?_) (fun h1 => ?_)
    · have hD := hD.1 h1
      show u_P L xs m d m_X4_waysOn 90 [(0, .ref 77), (1, .int x1), (2, .int x2), (3, .int j3), (4, .int x4), (5, .int x5)] [] S R _
      refine u_st rfl (fun _ => rfl) ?_
      show u_P L xs m d m_X4_waysOn 92 [(0, .ref 77), (1, .int x1), (2, .int x2), (3, .int j3), (4, .int x4), (5, .int x5)] [.int x4] S R _
      exact u_ret rfl rfl ⟨_, rfl, rfl, hD⟩
    · have hD := hD.2 h1
      show u_P L xs m d m_X4_waysOn 39 [(0, .ref 77), (1, .int x1), (2, .int x2), (3, .int j3), (4, .int x4), (5, .int x5)] [] S R _
      refine u_st rfl (fun _ => rfl) ?_
      refine u_st rfl (fun _ => rfl) ?_
      show u_P L xs m d m_X4_waysOn 43 [(0, .ref 77), (1, .int x1), (2, .int x2), (3, .int j3), (4, .int x4), (5, .int x5)] [.int (Int32.ofInt 8), .int x5] S R _
      refine u_ic_ge rfl (fun h2 => ?_) (fun h2 => ?_)
      · have hD := hD.1 h2
        show u_P L xs m d m_X4_waysOn 90 [(0, .ref 77), (1, .int x1), (2, .int x2), (3, .int j3), (4, .int x4), (5, .int x5)] [] S R _
        refine u_st rfl (fun _ => rfl) ?_
        show u_P L xs m d m_X4_waysOn 92 [(0, .ref 77), (1, .int x1), (2, .int x2), (3, .int j3), (4, .int x4), (5, .int x5)] [.int x4] S R _
        exact u_ret rfl rfl ⟨_, rfl, rfl, hD⟩
      · have hD := hD.2 h2
        show u_P L xs m d m_X4_waysOn 46 [(0, .ref 77), (1, .int x1), (2, .int x2), (3, .int j3), (4, .int x4), (5, .int x5)] [] S R _
        refine u_st rfl (fun _ => rfl) ?_
        refine u_st rfl (fun _ => rfl) ?_
        show u_P L xs m d m_X4_waysOn 48 [(0, .ref 77), (1, .int x1), (2, .int x2), (3, .int j3), (4, .int x4), (5, .int x5)] [.ref 77, .int x1] S R _
        refine u_getr rfl rfl rfl ?_
        refine u_st rfl (fun _ => rfl) ?_
        show u_P L xs m d m_X4_waysOn 52 [(0, .ref 77), (1, .int x1), (2, .int x2), (3, .int j3), (4, .int x4), (5, .int x5)] [.int x2, .ref 80, .int x1] S R _
        refine u_ialdE (v := S 79 x2.toInt.toNat) rfl rfl rfl (fun b31 b32 => ?_)
        have hD := hD b31 b32
        show u_P L xs m d m_X4_waysOn 53 [(0, .ref 77), (1, .int x1), (2, .int x2), (3, .int j3), (4, .int x4), (5, .int x5)] [.int (S 79 x2.toInt.toNat), .int x1] S R _
        refine u_st rfl (fun _ => rfl) ?_
        refine u_st rfl (fun _ => rfl) ?_
        show u_P L xs m d m_X4_waysOn 56 [(0, .ref 77), (1, .int x1), (2, .int x2), (3, .int j3), (4, .int x4), (5, .int x5)] [.int x5, .int (x1 ||| (S 79 x2.toInt.toNat))] S R _
        refine u_cs (ac := [.int (x1 ||| (S 79 x2.toInt.toNat)), .int x5]) (rest := []) rfl (by decide) mt_X11_isIn (fun _ => rfl) (Nat.le_of_ble_eq_true rfl) (Nat.le_of_ble_eq_true rfl) (fun d' => c_X11_isIn L xs m d' (x1 ||| (S 79 x2.toInt.toNat)) x5 S R) ?_
        rintro _ _ _ ⟨_, rfl, rfl, rfl, rfl⟩
        show u_P L xs m d m_X4_waysOn 59 [(0, .ref 77), (1, .int x1), (2, .int x2), (3, .int j3), (4, .int x4), (5, .int x5)] [.int (f_X11_isIn (x1 ||| (S 79 x2.toInt.toNat)) x5)] S R _
        refine u_if_ne rfl (fun h4 => ?_) (fun h4 => ?_)
        · have hD := hD.1 h4
          show u_P L xs m d m_X4_waysOn 84 [(0, .ref 77), (1, .int x1), (2, .int x2), (3, .int j3), (4, .int x4), (5, .int x5)] [] S R _
          refine u_st rfl (fun _ => rfl) ?_
          refine u_st rfl (fun _ => rfl) ?_
          refine u_lc (b := [(0, .ref 77), (1, .int x1), (2, .int x2), (3, .int j3), (4, .int x4), (5, .int (x5 + (Int32.ofInt 1)))]) (show ([5, 0, 1, 2, 3, 4] : List Nat).Nodup by decide) (show ([0, 1, 2, 3, 4, 5] : List Nat).Nodup by decide) (fun i => match i with | 0 => rfl | 1 => rfl | 2 => rfl | 3 => rfl | 4 => rfl | 5 => rfl | _ + 6 => rfl) ?_
          exact (ih m hm) d j3 x1 x2 x4 (x5 + (Int32.ofInt 1)) S hD
        · have hD := hD.2 h4
          show u_P L xs m d m_X4_waysOn 62 [(0, .ref 77), (1, .int x1), (2, .int x2), (3, .int j3), (4, .int x4), (5, .int x5)] [] S R _
          refine u_st rfl (fun _ => rfl) ?_
          refine u_st rfl (fun _ => rfl) ?_
          show u_P L xs m d m_X4_waysOn 65 [(0, .ref 77), (1, .int x1), (2, .int x2), (3, .int j3), (4, .int x4), (5, .int x5)] [.ref 77, .int x4] S R _
          refine u_getr rfl rfl rfl ?_
          refine u_st rfl (fun _ => rfl) ?_
          refine u_st rfl (fun _ => rfl) ?_
          refine u_st rfl (fun _ => rfl) ?_
          refine u_st rfl (fun _ => rfl) ?_
          refine u_st rfl (fun _ => rfl) ?_
          refine u_st rfl (fun _ => rfl) ?_
          refine u_st rfl (fun _ => rfl) ?_
          refine u_st rfl (fun _ => rfl) ?_
          refine u_st rfl (fun _ => rfl) ?_
          show u_P L xs m d m_X4_waysOn 80 [(0, .ref 77), (1, .int x1), (2, .int x2), (3, .int j3), (4, .int x4), (5, .int x5)] [.int (((x1 ||| ((Int32.ofInt 1) <<< (x5 &&& 31))) * (Int32.ofInt 8)) + x5), .ref 86, .int x4] S R _
          refine u_ialdE (v := S 85 ((((x1 ||| ((Int32.ofInt 1) <<< (x5 &&& 31))) * (Int32.ofInt 8)) + x5).toInt.toNat)) rfl rfl rfl (fun b51 b52 => ?_)
          have hD := hD b51 b52
          show u_P L xs m d m_X4_waysOn 81 [(0, .ref 77), (1, .int x1), (2, .int x2), (3, .int j3), (4, .int x4), (5, .int x5)] [.int (S 85 ((((x1 ||| ((Int32.ofInt 1) <<< (x5 &&& 31))) * (Int32.ofInt 8)) + x5).toInt.toNat)), .int x4] S R _
          refine u_st rfl (fun _ => rfl) ?_
          refine u_st rfl (fun _ => rfl) ?_
          refine u_st rfl (fun _ => rfl) ?_
          refine u_st rfl (fun _ => rfl) ?_
          refine u_lc (b := [(0, .ref 77), (1, .int x1), (2, .int x2), (3, .int j3), (4, .int (x4 + (S 85 ((((x1 ||| ((Int32.ofInt 1) <<< (x5 &&& 31))) * (Int32.ofInt 8)) + x5).toInt.toNat)))), (5, .int (x5 + (Int32.ofInt 1)))]) (show ([5, 4, 0, 1, 2, 3] : List Nat).Nodup by decide) (show ([0, 1, 2, 3, 4, 5] : List Nat).Nodup by decide) (fun i => match i with | 0 => rfl | 1 => rfl | 2 => rfl | 3 => rfl | 4 => rfl | 5 => rfl | _ + 6 => rfl) ?_
          exact (ih m hm) d j3 x1 x2 (x4 + (S 85 ((((x1 ||| ((Int32.ofInt 1) <<< (x5 &&& 31))) * (Int32.ofInt 8)) + x5).toInt.toNat))) (x5 + (Int32.ofInt 1)) S hD
set_option maxRecDepth 4000 in
theorem w_X4_waysOn (L : Nat) (xs : Nat → Int32) {R : v_Rf} (a : Int32) (b : Int32) (i : Int32) (H30 : Int32 → Int32 → Int32 → Int32 → v_Sf → Prop) (K : Int32 → v_Sf → Prop) (k30 : ∀ (x1 : Int32) (x2 : Int32) (x4 : Int32) (x5 : Int32) (S : v_Sf), H30 x1 x2 x4 x5 S → D_X4_waysOn_30 H30 K x1 x2 x4 x5 S) (n d : Nat) (S : v_Sf) (hD : D_X4_waysOn a b i H30 K S) : u_P L xs n d m_X4_waysOn 0 (lv_args 0 [.ref 77, .int a, .int b, .int i]) [] S R (z_Q R K) := by
  unfold D_X4_waysOn at hD
  show u_P L xs n d m_X4_waysOn 0 [(0, .ref 77), (1, .int a), (2, .int b), (3, .int i)] [] S R _
  refine u_st rfl (fun _ => rfl) ?_
  refine u_st rfl (fun _ => rfl) ?_
  show u_P L xs n d m_X4_waysOn 2 [(0, .ref 77), (1, .int a), (2, .int b), (3, .int i)] [.int i, .int a] S R _
  refine u_ic_ne rfl (fun h1 => ?_) (fun h1 => ?_)
  · have hD := hD.1 h1
    show u_P L xs n d m_X4_waysOn 24 [(0, .ref 77), (1, .int a), (2, .int b), (3, .int i)] [] S R _
    refine u_st rfl (fun _ => rfl) ?_
    refine u_st rfl (fun _ => rfl) ?_
    refine u_st rfl (fun _ => rfl) ?_
    refine u_st rfl (fun _ => rfl) ?_
    refine u_lc (b := [(0, .ref 77), (1, .int a), (2, .int b), (3, .int i), (4, .int (Int32.ofInt 0)), (5, .int (Int32.ofInt 1))]) (show ([5, 4, 0, 1, 2, 3] : List Nat).Nodup by decide) (show ([0, 1, 2, 3, 4, 5] : List Nat).Nodup by decide) (fun i => match i with | 0 => rfl | 1 => rfl | 2 => rfl | 3 => rfl | 4 => rfl | 5 => rfl | _ + 6 => rfl) ?_
    exact (hd_X4_waysOn L xs a b i H30 K k30 n) d i a b (Int32.ofInt 0) (Int32.ofInt 1) S hD
  · have hD := hD.2 h1
    show u_P L xs n d m_X4_waysOn 5 [(0, .ref 77), (1, .int a), (2, .int b), (3, .int i)] [] S R _
    refine u_st rfl (fun _ => rfl) ?_
    show u_P L xs n d m_X4_waysOn 6 [(0, .ref 77), (1, .int a), (2, .int b), (3, .int i)] [.ref 77] S R _
    refine u_getr rfl rfl rfl ?_
    refine u_st rfl (fun _ => rfl) ?_
    show u_P L xs n d m_X4_waysOn 10 [(0, .ref 77), (1, .int a), (2, .int b), (3, .int i)] [.int b, .ref 80] S R _
    refine u_ialdE (v := S 79 b.toInt.toNat) rfl rfl rfl (fun b21 b22 => ?_)
    have hD := hD b21 b22
    show u_P L xs n d m_X4_waysOn 11 [(0, .ref 77), (1, .int a), (2, .int b), (3, .int i)] [.int (S 79 b.toInt.toNat)] S R _
    refine u_st rfl (fun _ => rfl) ?_
    show u_P L xs n d m_X4_waysOn 12 [(0, .ref 77), (1, .int a), (2, .int b), (3, .int i)] [.int (Int32.ofInt 0), .int (S 79 b.toInt.toNat)] S R _
    refine u_cs (ac := [.int (S 79 b.toInt.toNat), .int (Int32.ofInt 0)]) (rest := []) rfl (by decide) mt_X11_isIn (fun _ => rfl) (Nat.le_of_ble_eq_true rfl) (Nat.le_of_ble_eq_true rfl) (fun d' => c_X11_isIn L xs n d' (S 79 b.toInt.toNat) (Int32.ofInt 0) S R) ?_
    rintro _ _ _ ⟨_, rfl, rfl, rfl, rfl⟩
    show u_P L xs n d m_X4_waysOn 15 [(0, .ref 77), (1, .int a), (2, .int b), (3, .int i)] [.int (f_X11_isIn (S 79 b.toInt.toNat) (Int32.ofInt 0))] S R _
    refine u_if_eq rfl (fun h3 => ?_) (fun h3 => ?_)
    · have hD := hD.1 h3
      show u_P L xs n d m_X4_waysOn 22 [(0, .ref 77), (1, .int a), (2, .int b), (3, .int i)] [] S R _
      refine u_st rfl (fun _ => rfl) ?_
      show u_P L xs n d m_X4_waysOn 23 [(0, .ref 77), (1, .int a), (2, .int b), (3, .int i)] [.int (Int32.ofInt 1)] S R _
      exact u_ret rfl rfl ⟨_, rfl, rfl, hD⟩
    · have hD := hD.2 h3
      show u_P L xs n d m_X4_waysOn 18 [(0, .ref 77), (1, .int a), (2, .int b), (3, .int i)] [] S R _
      refine u_st rfl (fun _ => rfl) ?_
      refine u_st rfl (fun _ => rfl) ?_
      show u_P L xs n d m_X4_waysOn 23 [(0, .ref 77), (1, .int a), (2, .int b), (3, .int i)] [.int (Int32.ofInt 0)] S R _
      exact u_ret rfl rfl ⟨_, rfl, rfl, hD⟩
noncomputable def r_won (a b : Int32) (S : v_Sf) : Nat → Nat → Int32 → Int32
  | 0, _, x => x
  | r + 1, k, x => if S 76 4 ≤ z_i k then x else if ¬ f_X11_isIn (a ||| S 79 b.toInt.toNat) (z_i k) = 0 then r_won a b S r (k + 1) x else r_won a b S r (k + 1) (x + S 85 ((((a ||| ((Int32.ofInt 1) <<< (z_i k &&& 31))) * (Int32.ofInt 8)) + z_i k).toInt.toNat))
noncomputable def f_X4_waysOn (a b i : Int32) (S : v_Sf) : Int32 := if ¬ a = i then r_won a b S 7 1 (Int32.ofInt 0) else if f_X11_isIn (S 79 b.toInt.toNat) (Int32.ofInt 0) = 0 then Int32.ofInt 1 else Int32.ofInt 0
theorem c_X4_waysOn (L : Nat) (xs : Nat → Int32) (n d : Nat) (a b i : Int32) (S : v_Sf) (R : v_Rf) : u_P L xs n d m_X4_waysOn 0 (lv_args 0 [.ref 77, .int a, .int b, .int i]) [] S R (z_Q R (fun v S1 => f_X4_waysOn a b i S = v ∧ S = S1)) := by
  refine w_X4_waysOn L xs a b i (fun x1 x2 x4 x5 T => a = x1 ∧ b = x2 ∧ S = T ∧ (¬ a = i) ∧ ∃ k, 1 ≤ k ∧ k ≤ 8 ∧ x5 = z_i k ∧ r_won a b S (8 - k) k x4 = r_won a b S 7 1 (Int32.ofInt 0)) (fun v S1 => f_X4_waysOn a b i S = v ∧ S = S1) ?_ n d S ?_
  · rintro _ _ x4 _ _ ⟨rfl, rfl, rfl, hi, k, h1, h8, rfl, e⟩
    have hw : f_X4_waysOn a b i S = r_won a b S 7 1 (Int32.ofInt 0) := by
      unfold f_X4_waysOn
      rw [if_pos hi]
    unfold D_X4_waysOn_30
    have fin : (S 76 4 ≤ z_i k ∨ k = 8) → r_won a b S (8 - k) k x4 = x4 := fun q => by
      rcases Nat.lt_or_ge k 8 with c | c
      · rw [show 8 - k = (7 - k) + 1 by omega, r_won, if_pos (show S 76 4 ≤ z_i k from q.resolve_right (by omega))]
      · rw [show 8 - k = 0 by omega, r_won]
    refine ⟨fun q => ⟨by rw [hw, ← e]; exact fin (Or.inl q), rfl⟩, fun q => ⟨fun q8 => ⟨?_, rfl⟩, fun q8 _ _ => ?_⟩⟩
    · rw [show Int32.ofInt 8 = z_i 8 from rfl, z_ile (by omega) (by omega)] at q8
      rw [hw, ← e]
      exact fin (Or.inr (by omega))
    · rw [show Int32.ofInt 8 = z_i 8 from rfl, z_ile (by omega) (by omega)] at q8
      rw [show 8 - k = (8 - (k + 1)) + 1 by omega, r_won, if_neg q] at e
      refine ⟨fun t => ⟨rfl, rfl, rfl, hi, k + 1, by omega, by omega, z_i1 k, ?_⟩, fun t _ _ => ⟨rfl, rfl, rfl, hi, k + 1, by omega, by omega, z_i1 k, ?_⟩⟩
      · rw [if_pos t] at e
        exact e
      · rw [if_neg t] at e
        exact e
  · unfold D_X4_waysOn
    refine ⟨fun q => ⟨rfl, rfl, rfl, q, 1, by omega, by omega, rfl, rfl⟩, fun q _ _ => ⟨fun t => ⟨?_, rfl⟩, fun t => ⟨?_, rfl⟩⟩⟩
    · unfold f_X4_waysOn
      rw [if_neg q, if_pos t]
    · unfold f_X4_waysOn
      rw [if_neg q, if_neg t]
noncomputable abbrev m_X4_firstOn : g_M := (g_cn 4, yX4_firstOn, cX4_firstOn, 4, (some .int), g_look2 ttX4_firstOn)
set_option maxRecDepth 20000 in
theorem mt_X4_firstOn : g_mt 58 = some m_X4_firstOn := rfl
noncomputable def D_X4_firstOn_2  (H2 : Int32 → Int32 → Int32 → v_Sf → Prop) (K : Int32 → v_Sf → Prop) (x1 : Int32) (x2 : Int32) (x3 : Int32) (S : v_Sf) : Prop := (((S 76 4) ≤ x3 → K (Int32.ofInt 0) S) ∧ (¬ ((S 76 4) ≤ x3) → (((Int32.ofInt 8) ≤ x3 → K (Int32.ofInt 0) S) ∧ (¬ ((Int32.ofInt 8) ≤ x3) → (0 ≤ x2.toInt → x2.toInt < 8 → (((¬ (f_X11_isIn (x1 ||| (S 79 x2.toInt.toNat)) x3) = 0) → H2 x1 x2 (x3 + (Int32.ofInt 1)) S) ∧ (¬ (¬ (f_X11_isIn (x1 ||| (S 79 x2.toInt.toNat)) x3) = 0) → (0 ≤ (((x1 ||| ((Int32.ofInt 1) <<< (x3 &&& 31))) * (Int32.ofInt 8)) + x3).toInt → (((x1 ||| ((Int32.ofInt 1) <<< (x3 &&& 31))) * (Int32.ofInt 8)) + x3).toInt < 2048 → (((S 85 ((((x1 ||| ((Int32.ofInt 1) <<< (x3 &&& 31))) * (Int32.ofInt 8)) + x3).toInt.toNat)) ≤ 0 → H2 x1 x2 (x3 + (Int32.ofInt 1)) S) ∧ (¬ ((S 85 ((((x1 ||| ((Int32.ofInt 1) <<< (x3 &&& 31))) * (Int32.ofInt 8)) + x3).toInt.toNat)) ≤ 0) → K x3 S))))))))))
noncomputable def D_X4_firstOn (a : Int32) (b : Int32) (H2 : Int32 → Int32 → Int32 → v_Sf → Prop) (K : Int32 → v_Sf → Prop) (S : v_Sf) : Prop := H2 a b (Int32.ofInt 1) S
set_option maxRecDepth 4000 in
theorem hd_X4_firstOn (L : Nat) (xs : Nat → Int32) {R : v_Rf} (a : Int32) (b : Int32) (H2 : Int32 → Int32 → Int32 → v_Sf → Prop) (K : Int32 → v_Sf → Prop) (k2 : ∀ (x1 : Int32) (x2 : Int32) (x3 : Int32) (S : v_Sf), H2 x1 x2 x3 S → D_X4_firstOn_2 H2 K x1 x2 x3 S) : ∀ n, (∀ (d : Nat) (x1 : Int32) (x2 : Int32) (x3 : Int32) (S : v_Sf), H2 x1 x2 x3 S → u_P L xs n d m_X4_firstOn 2 [(0, .ref 77), (1, .int x1), (2, .int x2), (3, .int x3)] [] S R (z_Q R K)) := by
  intro n
  induction n using Nat.strongRecOn with
  | ind n ih =>
    intro d x1 x2 x3 S hD
    have hD := k2 x1 x2 x3 S hD
    unfold D_X4_firstOn_2 at hD
    show u_P L xs n d m_X4_firstOn 2 [(0, .ref 77), (1, .int x1), (2, .int x2), (3, .int x3)] [] S R _
    refine u_st1 rfl (fun _ => rfl) (fun m hm => ?_)
    refine u_st rfl (fun _ => rfl) ?_
    show u_P L xs m d m_X4_firstOn 4 [(0, .ref 77), (1, .int x1), (2, .int x2), (3, .int x3)] [.ref 77, .int x3] S R _
    refine u_getE (v := S 76 4) rfl rfl rfl rfl ?_
    show u_P L xs m d m_X4_firstOn 7 [(0, .ref 77), (1, .int x1), (2, .int x2), (3, .int x3)] [.int (S 76 4), .int x3] S R _
    refine u_ic_ge rfl (fun h1 => ?_) (fun h1 => ?_)
    · have hD := hD.1 h1
      show u_P L xs m d m_X4_firstOn 57 [(0, .ref 77), (1, .int x1), (2, .int x2), (3, .int x3)] [] S R _
      refine u_st rfl (fun _ => rfl) ?_
      show u_P L xs m d m_X4_firstOn 58 [(0, .ref 77), (1, .int x1), (2, .int x2), (3, .int x3)] [.int (Int32.ofInt 0)] S R _
      exact u_ret rfl rfl ⟨_, rfl, rfl, hD⟩
    · have hD := hD.2 h1
      show u_P L xs m d m_X4_firstOn 10 [(0, .ref 77), (1, .int x1), (2, .int x2), (3, .int x3)] [] S R _
      refine u_st rfl (fun _ => rfl) ?_
      refine u_st rfl (fun _ => rfl) ?_
      show u_P L xs m d m_X4_firstOn 13 [(0, .ref 77), (1, .int x1), (2, .int x2), (3, .int x3)] [.int (Int32.ofInt 8), .int x3] S R _
      refine u_ic_ge rfl (fun h2 => ?_) (fun h2 => ?_)
      · have hD := hD.1 h2
        show u_P L xs m d m_X4_firstOn 57 [(0, .ref 77), (1, .int x1), (2, .int x2), (3, .int x3)] [] S R _
        refine u_st rfl (fun _ => rfl) ?_
        show u_P L xs m d m_X4_firstOn 58 [(0, .ref 77), (1, .int x1), (2, .int x2), (3, .int x3)] [.int (Int32.ofInt 0)] S R _
        exact u_ret rfl rfl ⟨_, rfl, rfl, hD⟩
      · have hD := hD.2 h2
        show u_P L xs m d m_X4_firstOn 16 [(0, .ref 77), (1, .int x1), (2, .int x2), (3, .int x3)] [] S R _
        refine u_st rfl (fun _ => rfl) ?_
        refine u_st rfl (fun _ => rfl) ?_
        show u_P L xs m d m_X4_firstOn 18 [(0, .ref 77), (1, .int x1), (2, .int x2), (3, .int x3)] [.ref 77, .int x1] S R _
        refine u_getr rfl rfl rfl ?_
        refine u_st rfl (fun _ => rfl) ?_
        show u_P L xs m d m_X4_firstOn 22 [(0, .ref 77), (1, .int x1), (2, .int x2), (3, .int x3)] [.int x2, .ref 80, .int x1] S R _
        refine u_ialdE (v := S 79 x2.toInt.toNat) rfl rfl rfl (fun b31 b32 => ?_)
        have hD := hD b31 b32
        show u_P L xs m d m_X4_firstOn 23 [(0, .ref 77), (1, .int x1), (2, .int x2), (3, .int x3)] [.int (S 79 x2.toInt.toNat), .int x1] S R _
        refine u_st rfl (fun _ => rfl) ?_
        refine u_st rfl (fun _ => rfl) ?_
        show u_P L xs m d m_X4_firstOn 25 [(0, .ref 77), (1, .int x1), (2, .int x2), (3, .int x3)] [.int x3, .int (x1 ||| (S 79 x2.toInt.toNat))] S R _
        refine u_cs (ac := [.int (x1 ||| (S 79 x2.toInt.toNat)), .int x3]) (rest := []) rfl (by decide) mt_X11_isIn (fun _ => rfl) (Nat.le_of_ble_eq_true rfl) (Nat.le_of_ble_eq_true rfl) (fun d' => c_X11_isIn L xs m d' (x1 ||| (S 79 x2.toInt.toNat)) x3 S R) ?_
        rintro _ _ _ ⟨_, rfl, rfl, rfl, rfl⟩
        show u_P L xs m d m_X4_firstOn 28 [(0, .ref 77), (1, .int x1), (2, .int x2), (3, .int x3)] [.int (f_X11_isIn (x1 ||| (S 79 x2.toInt.toNat)) x3)] S R _
        refine u_if_ne rfl (fun h4 => ?_) (fun h4 => ?_)
        · have hD := hD.1 h4
          show u_P L xs m d m_X4_firstOn 51 [(0, .ref 77), (1, .int x1), (2, .int x2), (3, .int x3)] [] S R _
          refine u_st rfl (fun _ => rfl) ?_
          refine u_st rfl (fun _ => rfl) ?_
          refine u_lc (b := [(0, .ref 77), (1, .int x1), (2, .int x2), (3, .int (x3 + (Int32.ofInt 1)))]) (show ([3, 0, 1, 2] : List Nat).Nodup by decide) (show ([0, 1, 2, 3] : List Nat).Nodup by decide) (fun i => match i with | 0 => rfl | 1 => rfl | 2 => rfl | 3 => rfl | _ + 4 => rfl) ?_
          exact (ih m hm) d x1 x2 (x3 + (Int32.ofInt 1)) S hD
        · have hD := hD.2 h4
          show u_P L xs m d m_X4_firstOn 31 [(0, .ref 77), (1, .int x1), (2, .int x2), (3, .int x3)] [] S R _
          refine u_st rfl (fun _ => rfl) ?_
          show u_P L xs m d m_X4_firstOn 32 [(0, .ref 77), (1, .int x1), (2, .int x2), (3, .int x3)] [.ref 77] S R _
          refine u_getr rfl rfl rfl ?_
          refine u_st rfl (fun _ => rfl) ?_
          refine u_st rfl (fun _ => rfl) ?_
          refine u_st rfl (fun _ => rfl) ?_
          refine u_st rfl (fun _ => rfl) ?_
          refine u_st rfl (fun _ => rfl) ?_
          refine u_st rfl (fun _ => rfl) ?_
          refine u_st rfl (fun _ => rfl) ?_
          refine u_st rfl (fun _ => rfl) ?_
          refine u_st rfl (fun _ => rfl) ?_
          show u_P L xs m d m_X4_firstOn 45 [(0, .ref 77), (1, .int x1), (2, .int x2), (3, .int x3)] [.int (((x1 ||| ((Int32.ofInt 1) <<< (x3 &&& 31))) * (Int32.ofInt 8)) + x3), .ref 86] S R _
          refine u_ialdE (v := S 85 ((((x1 ||| ((Int32.ofInt 1) <<< (x3 &&& 31))) * (Int32.ofInt 8)) + x3).toInt.toNat)) rfl rfl rfl (fun b51 b52 => ?_)
          have hD := hD b51 b52
          show u_P L xs m d m_X4_firstOn 46 [(0, .ref 77), (1, .int x1), (2, .int x2), (3, .int x3)] [.int (S 85 ((((x1 ||| ((Int32.ofInt 1) <<< (x3 &&& 31))) * (Int32.ofInt 8)) + x3).toInt.toNat))] S R _
          refine u_if_le rfl (fun h6 => ?_) (fun h6 => ?_)
          · have hD := hD.1 h6
            show u_P L xs m d m_X4_firstOn 51 [(0, .ref 77), (1, .int x1), (2, .int x2), (3, .int x3)] [] S R _
            refine u_st rfl (fun _ => rfl) ?_
            refine u_st rfl (fun _ => rfl) ?_
            refine u_lc (b := [(0, .ref 77), (1, .int x1), (2, .int x2), (3, .int (x3 + (Int32.ofInt 1)))]) (show ([3, 0, 1, 2] : List Nat).Nodup by decide) (show ([0, 1, 2, 3] : List Nat).Nodup by decide) (fun i => match i with | 0 => rfl | 1 => rfl | 2 => rfl | 3 => rfl | _ + 4 => rfl) ?_
            exact (ih m hm) d x1 x2 (x3 + (Int32.ofInt 1)) S hD
          · have hD := hD.2 h6
            show u_P L xs m d m_X4_firstOn 49 [(0, .ref 77), (1, .int x1), (2, .int x2), (3, .int x3)] [] S R _
            refine u_st rfl (fun _ => rfl) ?_
            show u_P L xs m d m_X4_firstOn 50 [(0, .ref 77), (1, .int x1), (2, .int x2), (3, .int x3)] [.int x3] S R _
            exact u_ret rfl rfl ⟨_, rfl, rfl, hD⟩
set_option maxRecDepth 4000 in
theorem w_X4_firstOn (L : Nat) (xs : Nat → Int32) {R : v_Rf} (a : Int32) (b : Int32) (H2 : Int32 → Int32 → Int32 → v_Sf → Prop) (K : Int32 → v_Sf → Prop) (k2 : ∀ (x1 : Int32) (x2 : Int32) (x3 : Int32) (S : v_Sf), H2 x1 x2 x3 S → D_X4_firstOn_2 H2 K x1 x2 x3 S) (n d : Nat) (S : v_Sf) (hD : D_X4_firstOn a b H2 K S) : u_P L xs n d m_X4_firstOn 0 (lv_args 0 [.ref 77, .int a, .int b]) [] S R (z_Q R K) := by
  unfold D_X4_firstOn at hD
  show u_P L xs n d m_X4_firstOn 0 [(0, .ref 77), (1, .int a), (2, .int b)] [] S R _
  refine u_st rfl (fun _ => rfl) ?_
  refine u_st rfl (fun _ => rfl) ?_
  refine u_lc (b := [(0, .ref 77), (1, .int a), (2, .int b), (3, .int (Int32.ofInt 1))]) (show ([3, 0, 1, 2] : List Nat).Nodup by decide) (show ([0, 1, 2, 3] : List Nat).Nodup by decide) (fun i => match i with | 0 => rfl | 1 => rfl | 2 => rfl | 3 => rfl | _ + 4 => rfl) ?_
  exact (hd_X4_firstOn L xs a b H2 K k2 n) d a b (Int32.ofInt 1) S hD
noncomputable def r_fst (a b : Int32) (S : v_Sf) : Nat → Nat → Int32
  | 0, _ => Int32.ofInt 0
  | r + 1, k => if S 76 4 ≤ z_i k then Int32.ofInt 0 else if ¬ f_X11_isIn (a ||| S 79 b.toInt.toNat) (z_i k) = 0 then r_fst a b S r (k + 1) else if S 85 ((((a ||| ((Int32.ofInt 1) <<< (z_i k &&& 31))) * (Int32.ofInt 8)) + z_i k).toInt.toNat) ≤ 0 then r_fst a b S r (k + 1) else z_i k
noncomputable def f_X4_firstOn (a b : Int32) (S : v_Sf) : Int32 := r_fst a b S 7 1
theorem c_X4_firstOn (L : Nat) (xs : Nat → Int32) (n d : Nat) (a b : Int32) (S : v_Sf) (R : v_Rf) : u_P L xs n d m_X4_firstOn 0 (lv_args 0 [.ref 77, .int a, .int b]) [] S R (z_Q R (fun v S1 => f_X4_firstOn a b S = v ∧ S = S1)) := by
  refine w_X4_firstOn L xs a b (fun x1 x2 x3 T => a = x1 ∧ b = x2 ∧ S = T ∧ ∃ k, 1 ≤ k ∧ k ≤ 8 ∧ x3 = z_i k ∧ r_fst a b S (8 - k) k = f_X4_firstOn a b S) (fun v S1 => f_X4_firstOn a b S = v ∧ S = S1) ?_ n d S ?_
  · rintro _ _ _ _ ⟨rfl, rfl, rfl, k, h1, h8, rfl, e⟩
    unfold D_X4_firstOn_2
    have fin : (S 76 4 ≤ z_i k ∨ k = 8) → r_fst a b S (8 - k) k = Int32.ofInt 0 := fun q => by
      rcases Nat.lt_or_ge k 8 with c | c
      · rw [show 8 - k = (7 - k) + 1 by omega, r_fst, if_pos (show S 76 4 ≤ z_i k from q.resolve_right (by omega))]
      · rw [show 8 - k = 0 by omega, r_fst]
    refine ⟨fun q => ⟨by rw [← e]; exact fin (Or.inl q), rfl⟩, fun q => ⟨fun q8 => ⟨?_, rfl⟩, fun q8 _ _ => ?_⟩⟩
    · rw [show Int32.ofInt 8 = z_i 8 from rfl, z_ile (by omega) (by omega)] at q8
      rw [← e]
      exact fin (Or.inr (by omega))
    · rw [show Int32.ofInt 8 = z_i 8 from rfl, z_ile (by omega) (by omega)] at q8
      rw [show 8 - k = (8 - (k + 1)) + 1 by omega, r_fst, if_neg q] at e
      refine ⟨fun t => ⟨rfl, rfl, rfl, k + 1, by omega, by omega, z_i1 k, ?_⟩, fun t _ _ => ⟨fun u => ⟨rfl, rfl, rfl, k + 1, by omega, by omega, z_i1 k, ?_⟩, fun u => ⟨?_, rfl⟩⟩⟩
      · rw [if_pos t] at e
        exact e
      · rw [if_neg t, if_pos u] at e
        exact e
      · rw [if_neg t, if_neg u] at e
        exact e.symm
  · unfold D_X4_firstOn
    exact ⟨rfl, rfl, rfl, 1, by omega, by omega, rfl, rfl⟩
noncomputable abbrev m_X4_ringAt : g_M := (g_cn 4, yX4_ringAt, cX4_ringAt, 2, (some .int), g_look2 ttX4_ringAt)
set_option maxRecDepth 20000 in
theorem mt_X4_ringAt : g_mt 50 = some m_X4_ringAt := rfl
noncomputable def f_X4_ringAt (a : Int32) (S : v_Sf) : Int32 := (if a < 0 then Int32.ofInt (-1) else (if (Int32.ofInt 8) ≤ a then Int32.ofInt (-1) else (if (S 84 a.toInt.toNat) < 0 then Int32.ofInt (-1) else (if (S 84 a.toInt.toNat) < (Int32.ofInt 8) then S 77 ((S 84 a.toInt.toNat).toInt.toNat) else Int32.ofInt (-1)))))
set_option maxRecDepth 4000 in
theorem c_X4_ringAt (L : Nat) (xs : Nat → Int32) (n d : Nat) (a : Int32) (S : v_Sf) (R : v_Rf) : u_P L xs n d m_X4_ringAt 0 (lv_args 0 [.ref 77, .int a]) [] S R (z_Q R (fun v S1 => f_X4_ringAt a S = v ∧ S = S1)) := by
  show u_P L xs n d m_X4_ringAt 0 [(0, .ref 77), (1, .int a)] [] S R _
  refine u_st rfl (fun _ => rfl) ?_
  show u_P L xs n d m_X4_ringAt 1 [(0, .ref 77), (1, .int a)] [.int a] S R _
  refine u_if_lt rfl (fun h1 => ?_) (fun h1 => ?_)
  · show u_P L xs n d m_X4_ringAt 30 [(0, .ref 77), (1, .int a)] [] S R _
    refine u_st rfl (fun _ => rfl) ?_
    show u_P L xs n d m_X4_ringAt 31 [(0, .ref 77), (1, .int a)] [.int (Int32.ofInt (-1))] S R _
    exact u_ret rfl rfl ⟨_, rfl, rfl, by rw [f_X4_ringAt, if_pos h1], rfl⟩
  · show u_P L xs n d m_X4_ringAt 4 [(0, .ref 77), (1, .int a)] [] S R _
    refine u_st rfl (fun _ => rfl) ?_
    refine u_st rfl (fun _ => rfl) ?_
    show u_P L xs n d m_X4_ringAt 7 [(0, .ref 77), (1, .int a)] [.int (Int32.ofInt 8), .int a] S R _
    refine u_ic_ge rfl (fun h2 => ?_) (fun h2 => ?_)
    · show u_P L xs n d m_X4_ringAt 30 [(0, .ref 77), (1, .int a)] [] S R _
      refine u_st rfl (fun _ => rfl) ?_
      show u_P L xs n d m_X4_ringAt 31 [(0, .ref 77), (1, .int a)] [.int (Int32.ofInt (-1))] S R _
      exact u_ret rfl rfl ⟨_, rfl, rfl, by rw [f_X4_ringAt, if_neg h1, if_pos h2], rfl⟩
    · show u_P L xs n d m_X4_ringAt 10 [(0, .ref 77), (1, .int a)] [] S R _
      refine u_st rfl (fun _ => rfl) ?_
      show u_P L xs n d m_X4_ringAt 11 [(0, .ref 77), (1, .int a)] [.ref 77] S R _
      refine u_getr rfl rfl rfl ?_
      refine u_st rfl (fun _ => rfl) ?_
      show u_P L xs n d m_X4_ringAt 15 [(0, .ref 77), (1, .int a)] [.int a, .ref 85] S R _
      refine u_ialdE (v := S 84 a.toInt.toNat) rfl rfl rfl (fun b31 b32 => ?_)
      show u_P L xs n d m_X4_ringAt 16 [(0, .ref 77), (1, .int a)] [.int (S 84 a.toInt.toNat)] S R _
      refine u_if_lt rfl (fun h4 => ?_) (fun h4 => ?_)
      · show u_P L xs n d m_X4_ringAt 30 [(0, .ref 77), (1, .int a)] [] S R _
        refine u_st rfl (fun _ => rfl) ?_
        show u_P L xs n d m_X4_ringAt 31 [(0, .ref 77), (1, .int a)] [.int (Int32.ofInt (-1))] S R _
        exact u_ret rfl rfl ⟨_, rfl, rfl, by rw [f_X4_ringAt, if_neg h1, if_neg h2, if_pos h4], rfl⟩
      · show u_P L xs n d m_X4_ringAt 19 [(0, .ref 77), (1, .int a)] [] S R _
        refine u_st rfl (fun _ => rfl) ?_
        show u_P L xs n d m_X4_ringAt 20 [(0, .ref 77), (1, .int a)] [.ref 77] S R _
        refine u_getr rfl rfl rfl ?_
        refine u_st rfl (fun _ => rfl) ?_
        show u_P L xs n d m_X4_ringAt 24 [(0, .ref 77), (1, .int a)] [.int a, .ref 85] S R _
        refine u_ialdE (v := S 84 a.toInt.toNat) rfl rfl rfl (fun b51 b52 => ?_)
        refine u_st rfl (fun _ => rfl) ?_
        show u_P L xs n d m_X4_ringAt 27 [(0, .ref 77), (1, .int a)] [.int (Int32.ofInt 8), .int (S 84 a.toInt.toNat)] S R _
        refine u_ic_lt rfl (fun h6 => ?_) (fun h6 => ?_)
        · show u_P L xs n d m_X4_ringAt 32 [(0, .ref 77), (1, .int a)] [] S R _
          refine u_st rfl (fun _ => rfl) ?_
          show u_P L xs n d m_X4_ringAt 33 [(0, .ref 77), (1, .int a)] [.ref 77] S R _
          refine u_getr rfl rfl rfl ?_
          refine u_st rfl (fun _ => rfl) ?_
          show u_P L xs n d m_X4_ringAt 37 [(0, .ref 77), (1, .int a)] [.ref 77, .ref 78] S R _
          refine u_getr rfl rfl rfl ?_
          refine u_st rfl (fun _ => rfl) ?_
          show u_P L xs n d m_X4_ringAt 41 [(0, .ref 77), (1, .int a)] [.int a, .ref 85, .ref 78] S R _
          refine u_ialdE (v := S 84 a.toInt.toNat) rfl rfl rfl (fun b71 b72 => ?_)
          show u_P L xs n d m_X4_ringAt 42 [(0, .ref 77), (1, .int a)] [.int (S 84 a.toInt.toNat), .ref 78] S R _
          refine u_ialdE (v := S 77 ((S 84 a.toInt.toNat).toInt.toNat)) rfl rfl rfl (fun b81 b82 => ?_)
          show u_P L xs n d m_X4_ringAt 43 [(0, .ref 77), (1, .int a)] [.int (S 77 ((S 84 a.toInt.toNat).toInt.toNat))] S R _
          exact u_ret rfl rfl ⟨_, rfl, rfl, by rw [f_X4_ringAt, if_neg h1, if_neg h2, if_neg h4, if_pos h6], rfl⟩
        · show u_P L xs n d m_X4_ringAt 30 [(0, .ref 77), (1, .int a)] [] S R _
          refine u_st rfl (fun _ => rfl) ?_
          show u_P L xs n d m_X4_ringAt 31 [(0, .ref 77), (1, .int a)] [.int (Int32.ofInt (-1))] S R _
          exact u_ret rfl rfl ⟨_, rfl, rfl, by rw [f_X4_ringAt, if_neg h1, if_neg h2, if_neg h4, if_neg h6], rfl⟩
noncomputable abbrev m_X4_walkFirst : g_M := (g_cn 4, yX4_walkFirst, cX4_walkFirst, 5, none, g_look2 ttX4_walkFirst)
set_option maxRecDepth 20000 in
theorem mt_X4_walkFirst : g_mt 57 = some m_X4_walkFirst := rfl
noncomputable def D_X4_walkFirst_13  (H13 : Int32 → Int32 → Int32 → v_Sf → Prop) (K : v_Sf → Prop) (x1 : Int32) (x2 : Int32) (x3 : Int32) (S : v_Sf) : Prop := (((S 76 4) ≤ x3 → K S) ∧ (¬ ((S 76 4) ≤ x3) → (((Int32.ofInt 8) ≤ x3 → K S) ∧ (¬ ((Int32.ofInt 8) ≤ x3) → (0 ≤ x3.toInt → x3.toInt < 8 → H13 (x1 ||| ((Int32.ofInt 1) <<< ((f_X4_firstOn x1 x2 S) &&& 31))) (f_X4_firstOn x1 x2 S) (x3 + (Int32.ofInt 1)) (z_s S 84 x3.toInt.toNat (f_X4_firstOn x1 x2 S)))))))
noncomputable def D_X4_walkFirst  (H13 : Int32 → Int32 → Int32 → v_Sf → Prop) (K : v_Sf → Prop) (S : v_Sf) : Prop := (0 ≤ (Int32.ofInt 0).toInt → (Int32.ofInt 0).toInt < 8 → H13 (Int32.ofInt 1) (Int32.ofInt 0) (Int32.ofInt 1) (z_s S 84 0 (Int32.ofInt 0)))
set_option maxRecDepth 4000 in
theorem hd_X4_walkFirst (L : Nat) (xs : Nat → Int32) {R : v_Rf}  (H13 : Int32 → Int32 → Int32 → v_Sf → Prop) (K : v_Sf → Prop) (k13 : ∀ (x1 : Int32) (x2 : Int32) (x3 : Int32) (S : v_Sf), H13 x1 x2 x3 S → D_X4_walkFirst_13 H13 K x1 x2 x3 S) : ∀ n, (∀ (d : Nat) (x1 : Int32) (x2 : Int32) (x3 : Int32) (S : v_Sf), H13 x1 x2 x3 S → u_P L xs n d m_X4_walkFirst 13 [(0, .ref 77), (1, .int x1), (2, .int x2), (3, .int x3)] [] S R (z_V R K)) ∧ (∀ (d : Nat) (j4 : Int32) (x1 : Int32) (x2 : Int32) (x3 : Int32) (S : v_Sf), H13 x1 x2 x3 S → u_P L xs n d m_X4_walkFirst 13 [(0, .ref 77), (1, .int x1), (2, .int x2), (3, .int x3), (4, .int j4)] [] S R (z_V R K)) := by
  intro n
  induction n using Nat.strongRecOn with
  | ind n ih =>
    refine ⟨?_, ?_⟩
    · intro d x1 x2 x3 S hD
      have hD := k13 x1 x2 x3 S hD
      unfold D_X4_walkFirst_13 at hD
      show u_P L xs n d m_X4_walkFirst 13 [(0, .ref 77), (1, .int x1), (2, .int x2), (3, .int x3)] [] S R _
      refine u_st1 rfl (fun _ => rfl) (fun m hm => ?_)
      refine u_st rfl (fun _ => rfl) ?_
      show u_P L xs m d m_X4_walkFirst 15 [(0, .ref 77), (1, .int x1), (2, .int x2), (3, .int x3)] [.ref 77, .int x3] S R _
      refine u_getE (v := S 76 4) rfl rfl rfl rfl ?_
      show u_P L xs m d m_X4_walkFirst 18 [(0, .ref 77), (1, .int x1), (2, .int x2), (3, .int x3)] [.int (S 76 4), .int x3] S R _
      refine u_ic_ge rfl (fun h1 => ?_) (fun h1 => ?_)
      · have hD := hD.1 h1
        show u_P L xs m d m_X4_walkFirst 59 [(0, .ref 77), (1, .int x1), (2, .int x2), (3, .int x3)] [] S R _
        exact u_ret rfl rfl ⟨rfl, rfl, hD⟩
      · have hD := hD.2 h1
        show u_P L xs m d m_X4_walkFirst 21 [(0, .ref 77), (1, .int x1), (2, .int x2), (3, .int x3)] [] S R _
        refine u_st rfl (fun _ => rfl) ?_
        refine u_st rfl (fun _ => rfl) ?_
        show u_P L xs m d m_X4_walkFirst 24 [(0, .ref 77), (1, .int x1), (2, .int x2), (3, .int x3)] [.int (Int32.ofInt 8), .int x3] S R _
        refine u_ic_ge rfl (fun h2 => ?_) (fun h2 => ?_)
        · have hD := hD.1 h2
          show u_P L xs m d m_X4_walkFirst 59 [(0, .ref 77), (1, .int x1), (2, .int x2), (3, .int x3)] [] S R _
          exact u_ret rfl rfl ⟨rfl, rfl, hD⟩
        · have hD := hD.2 h2
          show u_P L xs m d m_X4_walkFirst 27 [(0, .ref 77), (1, .int x1), (2, .int x2), (3, .int x3)] [] S R _
          refine u_st rfl (fun _ => rfl) ?_
          refine u_st rfl (fun _ => rfl) ?_
          refine u_st rfl (fun _ => rfl) ?_
          show u_P L xs m d m_X4_walkFirst 30 [(0, .ref 77), (1, .int x1), (2, .int x2), (3, .int x3)] [.int x2, .int x1, .ref 77] S R _
          refine u_cv (rest := []) rfl (by decide) mt_X4_firstOn rfl rfl rfl rfl (Nat.le_of_ble_eq_true rfl) (Nat.le_of_ble_eq_true rfl) (Nat.le_of_ble_eq_true rfl) (fun d' => c_X4_firstOn L xs m d' x1 x2 S R) ?_
          rintro _ _ _ ⟨_, rfl, rfl, rfl, rfl⟩
          refine u_st rfl (fun _ => rfl) ?_
          refine u_st rfl (fun _ => rfl) ?_
          show u_P L xs m d m_X4_walkFirst 36 [(4, .int (f_X4_firstOn x1 x2 S)), (0, .ref 77), (1, .int x1), (2, .int x2), (3, .int x3)] [.ref 77] S R _
          refine u_getr rfl rfl rfl ?_
          refine u_st rfl (fun _ => rfl) ?_
          refine u_st rfl (fun _ => rfl) ?_
          show u_P L xs m d m_X4_walkFirst 42 [(4, .int (f_X4_firstOn x1 x2 S)), (0, .ref 77), (1, .int x1), (2, .int x2), (3, .int x3)] [.int (f_X4_firstOn x1 x2 S), .int x3, .ref 85] S R _
          refine u_iast rfl rfl (fun b31 b32 => ?_)
          have hD := hD b31 b32
          show u_P L xs m d m_X4_walkFirst 43 [(4, .int (f_X4_firstOn x1 x2 S)), (0, .ref 77), (1, .int x1), (2, .int x2), (3, .int x3)] [] (z_s S 84 x3.toInt.toNat (f_X4_firstOn x1 x2 S)) R _
          refine u_st rfl (fun _ => rfl) ?_
          refine u_st rfl (fun _ => rfl) ?_
          refine u_st rfl (fun _ => rfl) ?_
          refine u_st rfl (fun _ => rfl) ?_
          refine u_st rfl (fun _ => rfl) ?_
          refine u_st rfl (fun _ => rfl) ?_
          refine u_st rfl (fun _ => rfl) ?_
          refine u_st rfl (fun _ => rfl) ?_
          refine u_st rfl (fun _ => rfl) ?_
          refine u_st rfl (fun _ => rfl) ?_
          refine u_lc (b := [(0, .ref 77), (1, .int (x1 ||| ((Int32.ofInt 1) <<< ((f_X4_firstOn x1 x2 S) &&& 31)))), (2, .int (f_X4_firstOn x1 x2 S)), (3, .int (x3 + (Int32.ofInt 1))), (4, .int (f_X4_firstOn x1 x2 S))]) (show ([3, 2, 1, 4, 0] : List Nat).Nodup by decide) (show ([0, 1, 2, 3, 4] : List Nat).Nodup by decide) (fun i => match i with | 0 => rfl | 1 => rfl | 2 => rfl | 3 => rfl | 4 => rfl | _ + 5 => rfl) ?_
          exact (ih m hm).2 d (f_X4_firstOn x1 x2 S) (x1 ||| ((Int32.ofInt 1) <<< ((f_X4_firstOn x1 x2 S) &&& 31))) (f_X4_firstOn x1 x2 S) (x3 + (Int32.ofInt 1)) (z_s S 84 x3.toInt.toNat (f_X4_firstOn x1 x2 S)) hD
    · intro d j4 x1 x2 x3 S hD
      have hD := k13 x1 x2 x3 S hD
      unfold D_X4_walkFirst_13 at hD
      show u_P L xs n d m_X4_walkFirst 13 [(0, .ref 77), (1, .int x1), (2, .int x2), (3, .int x3), (4, .int j4)] [] S R _
      refine u_st1 rfl (fun _ => rfl) (fun m hm => ?_)
      refine u_st rfl (fun _ => rfl) ?_
      show u_P L xs m d m_X4_walkFirst 15 [(0, .ref 77), (1, .int x1), (2, .int x2), (3, .int x3), (4, .int j4)] [.ref 77, .int x3] S R _
      refine u_getE (v := S 76 4) rfl rfl rfl rfl ?_
      show u_P L xs m d m_X4_walkFirst 18 [(0, .ref 77), (1, .int x1), (2, .int x2), (3, .int x3), (4, .int j4)] [.int (S 76 4), .int x3] S R _
      refine u_ic_ge rfl (fun h1 => ?_) (fun h1 => ?_)
      · have hD := hD.1 h1
        show u_P L xs m d m_X4_walkFirst 59 [(0, .ref 77), (1, .int x1), (2, .int x2), (3, .int x3), (4, .int j4)] [] S R _
        exact u_ret rfl rfl ⟨rfl, rfl, hD⟩
      · have hD := hD.2 h1
        show u_P L xs m d m_X4_walkFirst 21 [(0, .ref 77), (1, .int x1), (2, .int x2), (3, .int x3), (4, .int j4)] [] S R _
        refine u_st rfl (fun _ => rfl) ?_
        refine u_st rfl (fun _ => rfl) ?_
        show u_P L xs m d m_X4_walkFirst 24 [(0, .ref 77), (1, .int x1), (2, .int x2), (3, .int x3), (4, .int j4)] [.int (Int32.ofInt 8), .int x3] S R _
        refine u_ic_ge rfl (fun h2 => ?_) (fun h2 => ?_)
        · have hD := hD.1 h2
          show u_P L xs m d m_X4_walkFirst 59 [(0, .ref 77), (1, .int x1), (2, .int x2), (3, .int x3), (4, .int j4)] [] S R _
          exact u_ret rfl rfl ⟨rfl, rfl, hD⟩
        · have hD := hD.2 h2
          show u_P L xs m d m_X4_walkFirst 27 [(0, .ref 77), (1, .int x1), (2, .int x2), (3, .int x3), (4, .int j4)] [] S R _
          refine u_st rfl (fun _ => rfl) ?_
          refine u_st rfl (fun _ => rfl) ?_
          refine u_st rfl (fun _ => rfl) ?_
          show u_P L xs m d m_X4_walkFirst 30 [(0, .ref 77), (1, .int x1), (2, .int x2), (3, .int x3), (4, .int j4)] [.int x2, .int x1, .ref 77] S R _
          refine u_cv (rest := []) rfl (by decide) mt_X4_firstOn rfl rfl rfl rfl (Nat.le_of_ble_eq_true rfl) (Nat.le_of_ble_eq_true rfl) (Nat.le_of_ble_eq_true rfl) (fun d' => c_X4_firstOn L xs m d' x1 x2 S R) ?_
          rintro _ _ _ ⟨_, rfl, rfl, rfl, rfl⟩
          refine u_st rfl (fun _ => rfl) ?_
          refine u_st rfl (fun _ => rfl) ?_
          show u_P L xs m d m_X4_walkFirst 36 [(4, .int (f_X4_firstOn x1 x2 S)), (0, .ref 77), (1, .int x1), (2, .int x2), (3, .int x3)] [.ref 77] S R _
          refine u_getr rfl rfl rfl ?_
          refine u_st rfl (fun _ => rfl) ?_
          refine u_st rfl (fun _ => rfl) ?_
          show u_P L xs m d m_X4_walkFirst 42 [(4, .int (f_X4_firstOn x1 x2 S)), (0, .ref 77), (1, .int x1), (2, .int x2), (3, .int x3)] [.int (f_X4_firstOn x1 x2 S), .int x3, .ref 85] S R _
          refine u_iast rfl rfl (fun b31 b32 => ?_)
          have hD := hD b31 b32
          show u_P L xs m d m_X4_walkFirst 43 [(4, .int (f_X4_firstOn x1 x2 S)), (0, .ref 77), (1, .int x1), (2, .int x2), (3, .int x3)] [] (z_s S 84 x3.toInt.toNat (f_X4_firstOn x1 x2 S)) R _
          refine u_st rfl (fun _ => rfl) ?_
          refine u_st rfl (fun _ => rfl) ?_
          refine u_st rfl (fun _ => rfl) ?_
          refine u_st rfl (fun _ => rfl) ?_
          refine u_st rfl (fun _ => rfl) ?_
          refine u_st rfl (fun _ => rfl) ?_
          refine u_st rfl (fun _ => rfl) ?_
          refine u_st rfl (fun _ => rfl) ?_
          refine u_st rfl (fun _ => rfl) ?_
          refine u_st rfl (fun _ => rfl) ?_
          refine u_lc (b := [(0, .ref 77), (1, .int (x1 ||| ((Int32.ofInt 1) <<< ((f_X4_firstOn x1 x2 S) &&& 31)))), (2, .int (f_X4_firstOn x1 x2 S)), (3, .int (x3 + (Int32.ofInt 1))), (4, .int (f_X4_firstOn x1 x2 S))]) (show ([3, 2, 1, 4, 0] : List Nat).Nodup by decide) (show ([0, 1, 2, 3, 4] : List Nat).Nodup by decide) (fun i => match i with | 0 => rfl | 1 => rfl | 2 => rfl | 3 => rfl | 4 => rfl | _ + 5 => rfl) ?_
          exact (ih m hm).2 d (f_X4_firstOn x1 x2 S) (x1 ||| ((Int32.ofInt 1) <<< ((f_X4_firstOn x1 x2 S) &&& 31))) (f_X4_firstOn x1 x2 S) (x3 + (Int32.ofInt 1)) (z_s S 84 x3.toInt.toNat (f_X4_firstOn x1 x2 S)) hD
set_option maxRecDepth 4000 in
theorem w_X4_walkFirst (L : Nat) (xs : Nat → Int32) {R : v_Rf}  (H13 : Int32 → Int32 → Int32 → v_Sf → Prop) (K : v_Sf → Prop) (k13 : ∀ (x1 : Int32) (x2 : Int32) (x3 : Int32) (S : v_Sf), H13 x1 x2 x3 S → D_X4_walkFirst_13 H13 K x1 x2 x3 S) (n d : Nat) (S : v_Sf) (hD : D_X4_walkFirst H13 K S) : u_P L xs n d m_X4_walkFirst 0 (lv_args 0 [.ref 77]) [] S R (z_V R K) := by
  unfold D_X4_walkFirst at hD
  show u_P L xs n d m_X4_walkFirst 0 [(0, .ref 77)] [] S R _
  refine u_st rfl (fun _ => rfl) ?_
  refine u_st rfl (fun _ => rfl) ?_
  refine u_st rfl (fun _ => rfl) ?_
  refine u_st rfl (fun _ => rfl) ?_
  refine u_st rfl (fun _ => rfl) ?_
  show u_P L xs n d m_X4_walkFirst 5 [(2, .int (Int32.ofInt 0)), (1, .int (Int32.ofInt 1)), (0, .ref 77)] [.ref 77] S R _
  refine u_getr rfl rfl rfl ?_
  refine u_st rfl (fun _ => rfl) ?_
  refine u_st rfl (fun _ => rfl) ?_
  show u_P L xs n d m_X4_walkFirst 10 [(2, .int (Int32.ofInt 0)), (1, .int (Int32.ofInt 1)), (0, .ref 77)] [.int (Int32.ofInt 0), .int (Int32.ofInt 0), .ref 85] S R _
  refine u_iast rfl rfl (fun b11 b12 => ?_)
  have hD := hD b11 b12
  show u_P L xs n d m_X4_walkFirst 11 [(2, .int (Int32.ofInt 0)), (1, .int (Int32.ofInt 1)), (0, .ref 77)] [] (z_s S 84 0 (Int32.ofInt 0)) R _
  refine u_st rfl (fun _ => rfl) ?_
  refine u_st rfl (fun _ => rfl) ?_
  refine u_lc (b := [(0, .ref 77), (1, .int (Int32.ofInt 1)), (2, .int (Int32.ofInt 0)), (3, .int (Int32.ofInt 1))]) (show ([3, 2, 1, 0] : List Nat).Nodup by decide) (show ([0, 1, 2, 3] : List Nat).Nodup by decide) (fun i => match i with | 0 => rfl | 1 => rfl | 2 => rfl | 3 => rfl | _ + 4 => rfl) ?_
  exact (hd_X4_walkFirst L xs H13 K k13 n).1 d (Int32.ofInt 1) (Int32.ofInt 0) (Int32.ofInt 1) (z_s S 84 0 (Int32.ofInt 0)) hD
noncomputable def r_wlk : Nat → Nat → Int32 → Int32 → v_Sf → v_Sf
  | 0, _, _, _, S => S
  | r + 1, k, x1, x2, S => if S 76 4 ≤ z_i k then S else r_wlk r (k + 1) (x1 ||| ((Int32.ofInt 1) <<< (f_X4_firstOn x1 x2 S &&& 31))) (f_X4_firstOn x1 x2 S) (z_s S 84 (z_i k).toInt.toNat (f_X4_firstOn x1 x2 S))
noncomputable def g_X4_walkFirst (S : v_Sf) : v_Sf := r_wlk 7 1 (Int32.ofInt 1) (Int32.ofInt 0) (z_s S 84 0 (Int32.ofInt 0))
theorem c_X4_walkFirst (L : Nat) (xs : Nat → Int32) (n d : Nat) (S : v_Sf) (R : v_Rf) : u_P L xs n d m_X4_walkFirst 0 (lv_args 0 [.ref 77]) [] S R (z_V R (fun S1 => g_X4_walkFirst S = S1)) := by
  refine w_X4_walkFirst L xs (fun x1 x2 x3 T => ∃ k, 1 ≤ k ∧ k ≤ 8 ∧ x3 = z_i k ∧ r_wlk (8 - k) k x1 x2 T = g_X4_walkFirst S) (fun S1 => g_X4_walkFirst S = S1) ?_ n d S ?_
  · rintro x1 x2 _ T ⟨k, h1, h8, rfl, e⟩
    unfold D_X4_walkFirst_13
    have fin : (T 76 4 ≤ z_i k ∨ k = 8) → r_wlk (8 - k) k x1 x2 T = T := fun q => by
      rcases Nat.lt_or_ge k 8 with c | c
      · rw [show 8 - k = (7 - k) + 1 by omega, r_wlk, if_pos (show T 76 4 ≤ z_i k from q.resolve_right (by omega))]
      · rw [show 8 - k = 0 by omega, r_wlk]
    refine ⟨fun q => e.symm.trans (fin (Or.inl q)), fun q => ⟨fun q8 => ?_, fun q8 _ _ => ?_⟩⟩
    · rw [show Int32.ofInt 8 = z_i 8 from rfl, z_ile (by omega) (by omega)] at q8
      exact e.symm.trans (fin (Or.inr (by omega)))
    · rw [show Int32.ofInt 8 = z_i 8 from rfl, z_ile (by omega) (by omega)] at q8
      rw [show 8 - k = (8 - (k + 1)) + 1 by omega, r_wlk, if_neg q] at e
      exact ⟨k + 1, by omega, by omega, z_i1 k, e⟩
  · unfold D_X4_walkFirst
    intro _ _
    exact ⟨1, by omega, by omega, rfl, rfl⟩
