section PrtS42ya
theorem z_8le {k : Nat} (h : 8 ≤ k) (h2 : k ≤ 8) : Int32.ofInt 8 ≤ z_i k := by
  obtain rfl : k = 8 := by omega
  decide
noncomputable def D_spread77_4  (H4 : Int32 → Int32 → Int32 → v_Sf → Prop) (K : Int32 → v_Sf → Prop) (x0 : Int32) (x2 : Int32) (x3 : Int32) (S : v_Sf) : Prop := (((Int32.ofInt 12) ≤ x3 → K x2 S) ∧ (¬ ((Int32.ofInt 12) ≤ x3) → (((Int32.ofNat 8) ≤ x2 → K x2 S) ∧ (¬ ((Int32.ofNat 8) ≤ x2) → (((f_X11_isIn x0 x3) = 0 → H4 x0 x2 (x3 + (Int32.ofInt 1)) S) ∧ (¬ ((f_X11_isIn x0 x3) = 0) → (0 ≤ x2.toInt → x2.toInt < 8 → H4 x0 (x2 + (Int32.ofInt 1)) (x3 + (Int32.ofInt 1)) (z_s S 77 x2.toInt.toNat x3))))))))
noncomputable def D_spread77 (a : Int32) (H4 : Int32 → Int32 → Int32 → v_Sf → Prop) (K : Int32 → v_Sf → Prop) (S : v_Sf) : Prop := H4 a (Int32.ofInt 0) (Int32.ofInt 0) S
set_option maxRecDepth 4000 in
theorem hd_spread77 (L : Nat) (xs : Nat → Int32) {R : v_Rf} (a : Int32) (H4 : Int32 → Int32 → Int32 → v_Sf → Prop) (K : Int32 → v_Sf → Prop) (k4 : ∀ (x0 : Int32) (x2 : Int32) (x3 : Int32) (S : v_Sf), H4 x0 x2 x3 S → D_spread77_4 H4 K x0 x2 x3 S) : ∀ n, (∀ (d : Nat) (x0 : Int32) (x2 : Int32) (x3 : Int32) (S : v_Sf), H4 x0 x2 x3 S → u_P L xs n d m_X4_spread 4 [(0, .int x0), (1, .ref 78), (2, .int x2), (3, .int x3)] [] S R (z_Q R K)) := by
  intro n
  induction n using Nat.strongRecOn with
  | ind n ih =>
    intro d x0 x2 x3 S hD
    have hD := k4 x0 x2 x3 S hD
    unfold D_spread77_4 at hD
    show u_P L xs n d m_X4_spread 4 [(0, .int x0), (1, .ref 78), (2, .int x2), (3, .int x3)] [] S R _
    refine u_st1 rfl (fun _ => rfl) (fun m hm => ?_)
    refine u_st rfl (fun _ => rfl) ?_
    show u_P L xs m d m_X4_spread 7 [(0, .int x0), (1, .ref 78), (2, .int x2), (3, .int x3)] [.int (Int32.ofInt 12), .int x3] S R _
    refine u_ic_ge rfl (fun h1 => ?_) (fun h1 => ?_)
    · have hD := hD.1 h1
      show u_P L xs m d m_X4_spread 37 [(0, .int x0), (1, .ref 78), (2, .int x2), (3, .int x3)] [] S R _
      refine u_st rfl (fun _ => rfl) ?_
      show u_P L xs m d m_X4_spread 38 [(0, .int x0), (1, .ref 78), (2, .int x2), (3, .int x3)] [.int x2] S R _
      exact u_ret rfl rfl ⟨_, rfl, rfl, hD⟩
    · have hD := hD.2 h1
      show u_P L xs m d m_X4_spread 10 [(0, .int x0), (1, .ref 78), (2, .int x2), (3, .int x3)] [] S R _
      refine u_st rfl (fun _ => rfl) ?_
      refine u_st rfl (fun _ => rfl) ?_
      show u_P L xs m d m_X4_spread 12 [(0, .int x0), (1, .ref 78), (2, .int x2), (3, .int x3)] [.ref 78, .int x2] S R _
      refine u_al rfl rfl rfl ?_
      show u_P L xs m d m_X4_spread 13 [(0, .int x0), (1, .ref 78), (2, .int x2), (3, .int x3)] [.int (Int32.ofNat 8), .int x2] S R _
      refine u_ic_ge rfl (fun h2 => ?_) (fun h2 => ?_)
      · have hD := hD.1 h2
        show u_P L xs m d m_X4_spread 37 [(0, .int x0), (1, .ref 78), (2, .int x2), (3, .int x3)] [] S R _
        refine u_st rfl (fun _ => rfl) ?_
        show u_P L xs m d m_X4_spread 38 [(0, .int x0), (1, .ref 78), (2, .int x2), (3, .int x3)] [.int x2] S R _
        exact u_ret rfl rfl ⟨_, rfl, rfl, hD⟩
      · have hD := hD.2 h2
        show u_P L xs m d m_X4_spread 16 [(0, .int x0), (1, .ref 78), (2, .int x2), (3, .int x3)] [] S R _
        refine u_st rfl (fun _ => rfl) ?_
        refine u_st rfl (fun _ => rfl) ?_
        show u_P L xs m d m_X4_spread 18 [(0, .int x0), (1, .ref 78), (2, .int x2), (3, .int x3)] [.int x3, .int x0] S R _
        refine u_cs (ac := [.int x0, .int x3]) (rest := []) rfl (by decide) mt_X11_isIn (fun _ => rfl) (Nat.le_of_ble_eq_true rfl) (Nat.le_of_ble_eq_true rfl) (fun d' => c_X11_isIn L xs m d' x0 x3 S R) ?_
        rintro _ _ _ ⟨_, rfl, rfl, rfl, rfl⟩
        show u_P L xs m d m_X4_spread 21 [(0, .int x0), (1, .ref 78), (2, .int x2), (3, .int x3)] [.int (f_X11_isIn x0 x3)] S R _
        refine u_if_eq rfl (fun h3 => ?_) (fun h3 => ?_)
        · have hD := hD.1 h3
          show u_P L xs m d m_X4_spread 31 [(0, .int x0), (1, .ref 78), (2, .int x2), (3, .int x3)] [] S R _
          refine u_st rfl (fun _ => rfl) ?_
          refine u_st rfl (fun _ => rfl) ?_
          refine u_lc (b := [(0, .int x0), (1, .ref 78), (2, .int x2), (3, .int (x3 + (Int32.ofInt 1)))]) (show ([3, 0, 1, 2] : List Nat).Nodup by decide) (show ([0, 1, 2, 3] : List Nat).Nodup by decide) (fun i => match i with | 0 => rfl | 1 => rfl | 2 => rfl | 3 => rfl | _ + 4 => rfl) ?_
          exact (ih m hm) d x0 x2 (x3 + (Int32.ofInt 1)) S hD
        · have hD := hD.2 h3
          show u_P L xs m d m_X4_spread 24 [(0, .int x0), (1, .ref 78), (2, .int x2), (3, .int x3)] [] S R _
          refine u_st rfl (fun _ => rfl) ?_
          refine u_st rfl (fun _ => rfl) ?_
          refine u_st rfl (fun _ => rfl) ?_
          show u_P L xs m d m_X4_spread 27 [(0, .int x0), (1, .ref 78), (2, .int x2), (3, .int x3)] [.int x3, .int x2, .ref 78] S R _
          refine u_iast rfl rfl (fun b41 b42 => ?_)
          have hD := hD b41 b42
          show u_P L xs m d m_X4_spread 28 [(0, .int x0), (1, .ref 78), (2, .int x2), (3, .int x3)] [] (z_s S 77 x2.toInt.toNat x3) R _
          refine u_st rfl (fun _ => rfl) ?_
          refine u_st rfl (fun _ => rfl) ?_
          refine u_st rfl (fun _ => rfl) ?_
          refine u_lc (b := [(0, .int x0), (1, .ref 78), (2, .int (x2 + (Int32.ofInt 1))), (3, .int (x3 + (Int32.ofInt 1)))]) (show ([3, 2, 0, 1] : List Nat).Nodup by decide) (show ([0, 1, 2, 3] : List Nat).Nodup by decide) (fun i => match i with | 0 => rfl | 1 => rfl | 2 => rfl | 3 => rfl | _ + 4 => rfl) ?_
          exact (ih m hm) d x0 (x2 + (Int32.ofInt 1)) (x3 + (Int32.ofInt 1)) (z_s S 77 x2.toInt.toNat x3) hD
set_option maxRecDepth 4000 in
theorem w_spread77 (L : Nat) (xs : Nat → Int32) {R : v_Rf} (a : Int32) (H4 : Int32 → Int32 → Int32 → v_Sf → Prop) (K : Int32 → v_Sf → Prop) (k4 : ∀ (x0 : Int32) (x2 : Int32) (x3 : Int32) (S : v_Sf), H4 x0 x2 x3 S → D_spread77_4 H4 K x0 x2 x3 S) (n d : Nat) (S : v_Sf) (hD : D_spread77 a H4 K S) : u_P L xs n d m_X4_spread 0 (lv_args 0 [.int a, .ref 78]) [] S R (z_Q R K) := by
  unfold D_spread77 at hD
  show u_P L xs n d m_X4_spread 0 [(0, .int a), (1, .ref 78)] [] S R _
  refine u_st rfl (fun _ => rfl) ?_
  refine u_st rfl (fun _ => rfl) ?_
  refine u_st rfl (fun _ => rfl) ?_
  refine u_st rfl (fun _ => rfl) ?_
  refine u_lc (b := [(0, .int a), (1, .ref 78), (2, .int (Int32.ofInt 0)), (3, .int (Int32.ofInt 0))]) (show ([3, 2, 0, 1] : List Nat).Nodup by decide) (show ([0, 1, 2, 3] : List Nat).Nodup by decide) (fun i => match i with | 0 => rfl | 1 => rfl | 2 => rfl | 3 => rfl | _ + 4 => rfl) ?_
  exact (hd_spread77 L xs a H4 K k4 n) d a (Int32.ofInt 0) (Int32.ofInt 0) S hD
noncomputable def r_spread77_4 (x0 : Int32) : Nat → Nat → Int32 → v_Sf → Int32 × v_Sf
  | 0, k4, x2, S => (x2, S)
  | r + 1, k4, x2, S => (if (Int32.ofNat 8) ≤ x2 then (x2, S) else (if (f_X11_isIn x0 (z_i k4)) = 0 then r_spread77_4 x0 r (k4 + 1) x2 S else r_spread77_4 x0 r (k4 + 1) (x2 + (Int32.ofInt 1)) (z_s S 77 x2.toInt.toNat (z_i k4))))
noncomputable def F_spread77 (a : Int32) (S : v_Sf) : Int32 × v_Sf := r_spread77_4 a (12 - 0) 0 (Int32.ofInt 0) S
noncomputable def f_spread77 (a : Int32) (S : v_Sf) : Int32 := (F_spread77 a S).1
noncomputable def g_spread77 (a : Int32) (S : v_Sf) : v_Sf := (F_spread77 a S).2
theorem c_spread77 (L : Nat) (xs : Nat → Int32) (n d : Nat) (a : Int32) (S : v_Sf) (R : v_Rf) : u_P L xs n d m_X4_spread 0 (lv_args 0 [.int a, .ref 78]) [] S R (z_Q R (fun v S1 => f_spread77 a S = v ∧ g_spread77 a S = S1)) := by
  refine w_spread77 L xs a (fun y0 y2 y3 T => ∃ (k4 : Nat), k4 ≤ 12 ∧ z_i k4 = y3 ∧ a = y0 ∧ r_spread77_4 a (12 - k4) k4 y2 T = F_spread77 a S) (fun v S1 => f_spread77 a S = v ∧ g_spread77 a S = S1) ?_ n d S ?_
  · rintro _ x2 _ S1 ⟨k4, hkk, rfl, rfl, e⟩
    unfold D_spread77_4
    rcases Nat.lt_or_ge k4 (12) with hk | hk
    · rw [show 12 - k4 = (12 - (k4 + 1)) + 1 by omega, r_spread77_4] at e
      refine ⟨fun q1 => ?_, fun q1 => ?_⟩
      · exact absurd hk (Nat.not_lt.mpr (z_leB2 (B := 12) q1 (by decide) (by omega)))
      · refine ⟨fun q2 => ?_, fun q2 => ?_⟩
        · rw [if_pos q2] at e
          have e1 := congrArg Prod.fst e.symm
          have e2 := congrArg Prod.snd e.symm
          exact ⟨e1, e2⟩
        · refine ⟨fun q3 => ?_, fun q3 => ?_⟩
          · rw [if_neg q2, if_pos q3] at e
            exact ⟨(k4 + 1), by omega, (z_i1 k4).symm, rfl, e⟩
          · intro _ _
            rw [if_neg q2, if_neg q3] at e
            exact ⟨(k4 + 1), by omega, (z_i1 k4).symm, rfl, e⟩
    · rw [show 12 - k4 = 0 by omega, r_spread77_4] at e
      refine ⟨fun q4 => ?_, fun q4 => ?_⟩
      · have e1 := congrArg Prod.fst e.symm
        have e2 := congrArg Prod.snd e.symm
        exact ⟨e1, e2⟩
      · exact absurd hk (Nat.not_le.mpr (z_ltB2 (B := 12) q4 (by decide) (by omega)))
  · unfold D_spread77
    have e : r_spread77_4 a (12 - 0) 0 (Int32.ofInt 0) S = F_spread77 a S := by rw [F_spread77]
    exact ⟨0, by omega, rfl, rfl, e⟩
noncomputable def D_spread78_4  (H4 : Int32 → Int32 → Int32 → v_Sf → Prop) (K : Int32 → v_Sf → Prop) (x0 : Int32) (x2 : Int32) (x3 : Int32) (S : v_Sf) : Prop := (((Int32.ofInt 12) ≤ x3 → K x2 S) ∧ (¬ ((Int32.ofInt 12) ≤ x3) → (((Int32.ofNat 8) ≤ x2 → K x2 S) ∧ (¬ ((Int32.ofNat 8) ≤ x2) → (((f_X11_isIn x0 x3) = 0 → H4 x0 x2 (x3 + (Int32.ofInt 1)) S) ∧ (¬ ((f_X11_isIn x0 x3) = 0) → (0 ≤ x2.toInt → x2.toInt < 8 → H4 x0 (x2 + (Int32.ofInt 1)) (x3 + (Int32.ofInt 1)) (z_s S 78 x2.toInt.toNat x3))))))))
noncomputable def D_spread78 (a : Int32) (H4 : Int32 → Int32 → Int32 → v_Sf → Prop) (K : Int32 → v_Sf → Prop) (S : v_Sf) : Prop := H4 a (Int32.ofInt 0) (Int32.ofInt 0) S
set_option maxRecDepth 4000 in
theorem hd_spread78 (L : Nat) (xs : Nat → Int32) {R : v_Rf} (a : Int32) (H4 : Int32 → Int32 → Int32 → v_Sf → Prop) (K : Int32 → v_Sf → Prop) (k4 : ∀ (x0 : Int32) (x2 : Int32) (x3 : Int32) (S : v_Sf), H4 x0 x2 x3 S → D_spread78_4 H4 K x0 x2 x3 S) : ∀ n, (∀ (d : Nat) (x0 : Int32) (x2 : Int32) (x3 : Int32) (S : v_Sf), H4 x0 x2 x3 S → u_P L xs n d m_X4_spread 4 [(0, .int x0), (1, .ref 79), (2, .int x2), (3, .int x3)] [] S R (z_Q R K)) := by
  intro n
  induction n using Nat.strongRecOn with
  | ind n ih =>
    intro d x0 x2 x3 S hD
    have hD := k4 x0 x2 x3 S hD
    unfold D_spread78_4 at hD
    show u_P L xs n d m_X4_spread 4 [(0, .int x0), (1, .ref 79), (2, .int x2), (3, .int x3)] [] S R _
    refine u_st1 rfl (fun _ => rfl) (fun m hm => ?_)
    refine u_st rfl (fun _ => rfl) ?_
    show u_P L xs m d m_X4_spread 7 [(0, .int x0), (1, .ref 79), (2, .int x2), (3, .int x3)] [.int (Int32.ofInt 12), .int x3] S R _
    refine u_ic_ge rfl (fun h1 => ?_) (fun h1 => ?_)
    · have hD := hD.1 h1
      show u_P L xs m d m_X4_spread 37 [(0, .int x0), (1, .ref 79), (2, .int x2), (3, .int x3)] [] S R _
      refine u_st rfl (fun _ => rfl) ?_
      show u_P L xs m d m_X4_spread 38 [(0, .int x0), (1, .ref 79), (2, .int x2), (3, .int x3)] [.int x2] S R _
      exact u_ret rfl rfl ⟨_, rfl, rfl, hD⟩
    · have hD := hD.2 h1
      show u_P L xs m d m_X4_spread 10 [(0, .int x0), (1, .ref 79), (2, .int x2), (3, .int x3)] [] S R _
      refine u_st rfl (fun _ => rfl) ?_
      refine u_st rfl (fun _ => rfl) ?_
      show u_P L xs m d m_X4_spread 12 [(0, .int x0), (1, .ref 79), (2, .int x2), (3, .int x3)] [.ref 79, .int x2] S R _
      refine u_al rfl rfl rfl ?_
      show u_P L xs m d m_X4_spread 13 [(0, .int x0), (1, .ref 79), (2, .int x2), (3, .int x3)] [.int (Int32.ofNat 8), .int x2] S R _
      refine u_ic_ge rfl (fun h2 => ?_) (fun h2 => ?_)
      · have hD := hD.1 h2
        show u_P L xs m d m_X4_spread 37 [(0, .int x0), (1, .ref 79), (2, .int x2), (3, .int x3)] [] S R _
        refine u_st rfl (fun _ => rfl) ?_
        show u_P L xs m d m_X4_spread 38 [(0, .int x0), (1, .ref 79), (2, .int x2), (3, .int x3)] [.int x2] S R _
        exact u_ret rfl rfl ⟨_, rfl, rfl, hD⟩
      · have hD := hD.2 h2
        show u_P L xs m d m_X4_spread 16 [(0, .int x0), (1, .ref 79), (2, .int x2), (3, .int x3)] [] S R _
        refine u_st rfl (fun _ => rfl) ?_
        refine u_st rfl (fun _ => rfl) ?_
        show u_P L xs m d m_X4_spread 18 [(0, .int x0), (1, .ref 79), (2, .int x2), (3, .int x3)] [.int x3, .int x0] S R _
        refine u_cs (ac := [.int x0, .int x3]) (rest := []) rfl (by decide) mt_X11_isIn (fun _ => rfl) (Nat.le_of_ble_eq_true rfl) (Nat.le_of_ble_eq_true rfl) (fun d' => c_X11_isIn L xs m d' x0 x3 S R) ?_
        rintro _ _ _ ⟨_, rfl, rfl, rfl, rfl⟩
        show u_P L xs m d m_X4_spread 21 [(0, .int x0), (1, .ref 79), (2, .int x2), (3, .int x3)] [.int (f_X11_isIn x0 x3)] S R _
        refine u_if_eq rfl (fun h3 => ?_) (fun h3 => ?_)
        · have hD := hD.1 h3
          show u_P L xs m d m_X4_spread 31 [(0, .int x0), (1, .ref 79), (2, .int x2), (3, .int x3)] [] S R _
          refine u_st rfl (fun _ => rfl) ?_
          refine u_st rfl (fun _ => rfl) ?_
          refine u_lc (b := [(0, .int x0), (1, .ref 79), (2, .int x2), (3, .int (x3 + (Int32.ofInt 1)))]) (show ([3, 0, 1, 2] : List Nat).Nodup by decide) (show ([0, 1, 2, 3] : List Nat).Nodup by decide) (fun i => match i with | 0 => rfl | 1 => rfl | 2 => rfl | 3 => rfl | _ + 4 => rfl) ?_
          exact (ih m hm) d x0 x2 (x3 + (Int32.ofInt 1)) S hD
        · have hD := hD.2 h3
          show u_P L xs m d m_X4_spread 24 [(0, .int x0), (1, .ref 79), (2, .int x2), (3, .int x3)] [] S R _
          refine u_st rfl (fun _ => rfl) ?_
          refine u_st rfl (fun _ => rfl) ?_
          refine u_st rfl (fun _ => rfl) ?_
          show u_P L xs m d m_X4_spread 27 [(0, .int x0), (1, .ref 79), (2, .int x2), (3, .int x3)] [.int x3, .int x2, .ref 79] S R _
          refine u_iast rfl rfl (fun b41 b42 => ?_)
          have hD := hD b41 b42
          show u_P L xs m d m_X4_spread 28 [(0, .int x0), (1, .ref 79), (2, .int x2), (3, .int x3)] [] (z_s S 78 x2.toInt.toNat x3) R _
          refine u_st rfl (fun _ => rfl) ?_
          refine u_st rfl (fun _ => rfl) ?_
          refine u_st rfl (fun _ => rfl) ?_
          refine u_lc (b := [(0, .int x0), (1, .ref 79), (2, .int (x2 + (Int32.ofInt 1))), (3, .int (x3 + (Int32.ofInt 1)))]) (show ([3, 2, 0, 1] : List Nat).Nodup by decide) (show ([0, 1, 2, 3] : List Nat).Nodup by decide) (fun i => match i with | 0 => rfl | 1 => rfl | 2 => rfl | 3 => rfl | _ + 4 => rfl) ?_
          exact (ih m hm) d x0 (x2 + (Int32.ofInt 1)) (x3 + (Int32.ofInt 1)) (z_s S 78 x2.toInt.toNat x3) hD
set_option maxRecDepth 4000 in
theorem w_spread78 (L : Nat) (xs : Nat → Int32) {R : v_Rf} (a : Int32) (H4 : Int32 → Int32 → Int32 → v_Sf → Prop) (K : Int32 → v_Sf → Prop) (k4 : ∀ (x0 : Int32) (x2 : Int32) (x3 : Int32) (S : v_Sf), H4 x0 x2 x3 S → D_spread78_4 H4 K x0 x2 x3 S) (n d : Nat) (S : v_Sf) (hD : D_spread78 a H4 K S) : u_P L xs n d m_X4_spread 0 (lv_args 0 [.int a, .ref 79]) [] S R (z_Q R K) := by
  unfold D_spread78 at hD
  show u_P L xs n d m_X4_spread 0 [(0, .int a), (1, .ref 79)] [] S R _
  refine u_st rfl (fun _ => rfl) ?_
  refine u_st rfl (fun _ => rfl) ?_
  refine u_st rfl (fun _ => rfl) ?_
  refine u_st rfl (fun _ => rfl) ?_
  refine u_lc (b := [(0, .int a), (1, .ref 79), (2, .int (Int32.ofInt 0)), (3, .int (Int32.ofInt 0))]) (show ([3, 2, 0, 1] : List Nat).Nodup by decide) (show ([0, 1, 2, 3] : List Nat).Nodup by decide) (fun i => match i with | 0 => rfl | 1 => rfl | 2 => rfl | 3 => rfl | _ + 4 => rfl) ?_
  exact (hd_spread78 L xs a H4 K k4 n) d a (Int32.ofInt 0) (Int32.ofInt 0) S hD
noncomputable def r_spread78_4 (x0 : Int32) : Nat → Nat → Int32 → v_Sf → Int32 × v_Sf
  | 0, k4, x2, S => (x2, S)
  | r + 1, k4, x2, S => (if (Int32.ofNat 8) ≤ x2 then (x2, S) else (if (f_X11_isIn x0 (z_i k4)) = 0 then r_spread78_4 x0 r (k4 + 1) x2 S else r_spread78_4 x0 r (k4 + 1) (x2 + (Int32.ofInt 1)) (z_s S 78 x2.toInt.toNat (z_i k4))))
noncomputable def F_spread78 (a : Int32) (S : v_Sf) : Int32 × v_Sf := r_spread78_4 a (12 - 0) 0 (Int32.ofInt 0) S
noncomputable def f_spread78 (a : Int32) (S : v_Sf) : Int32 := (F_spread78 a S).1
noncomputable def g_spread78 (a : Int32) (S : v_Sf) : v_Sf := (F_spread78 a S).2
theorem c_spread78 (L : Nat) (xs : Nat → Int32) (n d : Nat) (a : Int32) (S : v_Sf) (R : v_Rf) : u_P L xs n d m_X4_spread 0 (lv_args 0 [.int a, .ref 79]) [] S R (z_Q R (fun v S1 => f_spread78 a S = v ∧ g_spread78 a S = S1)) := by
  refine w_spread78 L xs a (fun y0 y2 y3 T => ∃ (k4 : Nat), k4 ≤ 12 ∧ z_i k4 = y3 ∧ a = y0 ∧ r_spread78_4 a (12 - k4) k4 y2 T = F_spread78 a S) (fun v S1 => f_spread78 a S = v ∧ g_spread78 a S = S1) ?_ n d S ?_
  · rintro _ x2 _ S1 ⟨k4, hkk, rfl, rfl, e⟩
    unfold D_spread78_4
    rcases Nat.lt_or_ge k4 (12) with hk | hk
    · rw [show 12 - k4 = (12 - (k4 + 1)) + 1 by omega, r_spread78_4] at e
      refine ⟨fun q1 => ?_, fun q1 => ?_⟩
      · exact absurd hk (Nat.not_lt.mpr (z_leB2 (B := 12) q1 (by decide) (by omega)))
      · refine ⟨fun q2 => ?_, fun q2 => ?_⟩
        · rw [if_pos q2] at e
          have e1 := congrArg Prod.fst e.symm
          have e2 := congrArg Prod.snd e.symm
          exact ⟨e1, e2⟩
        · refine ⟨fun q3 => ?_, fun q3 => ?_⟩
          · rw [if_neg q2, if_pos q3] at e
            exact ⟨(k4 + 1), by omega, (z_i1 k4).symm, rfl, e⟩
          · intro _ _
            rw [if_neg q2, if_neg q3] at e
            exact ⟨(k4 + 1), by omega, (z_i1 k4).symm, rfl, e⟩
    · rw [show 12 - k4 = 0 by omega, r_spread78_4] at e
      refine ⟨fun q4 => ?_, fun q4 => ?_⟩
      · have e1 := congrArg Prod.fst e.symm
        have e2 := congrArg Prod.snd e.symm
        exact ⟨e1, e2⟩
      · exact absurd hk (Nat.not_le.mpr (z_ltB2 (B := 12) q4 (by decide) (by omega)))
  · unfold D_spread78
    have e : r_spread78_4 a (12 - 0) 0 (Int32.ofInt 0) S = F_spread78 a S := by rw [F_spread78]
    exact ⟨0, by omega, rfl, rfl, e⟩
noncomputable def D_fill79_5  (H5 : Int32 → Int32 → Int32 → v_Sf → Prop) (K : v_Sf → Prop) (x1 : Int32) (x2 : Int32) (x3 : Int32) (S : v_Sf) : Prop := ((x3 ≤ x2 → K S) ∧ (¬ (x3 ≤ x2) → (0 ≤ x2.toInt → x2.toInt < 8 → H5 x1 (x2 + (Int32.ofInt 1)) x3 (z_s S 79 x2.toInt.toNat x1))))
noncomputable def D_fill79 (v : Int32) (H5 : Int32 → Int32 → Int32 → v_Sf → Prop) (K : v_Sf → Prop) (S : v_Sf) : Prop := H5 v (Int32.ofInt 0) (Int32.ofNat 8) S
set_option maxRecDepth 4000 in
theorem hd_fill79 (L : Nat) (xs : Nat → Int32) {R : v_Rf} (v : Int32) (H5 : Int32 → Int32 → Int32 → v_Sf → Prop) (K : v_Sf → Prop) (k5 : ∀ (x1 : Int32) (x2 : Int32) (x3 : Int32) (S : v_Sf), H5 x1 x2 x3 S → D_fill79_5 H5 K x1 x2 x3 S) : ∀ n, (∀ (d : Nat) (x1 : Int32) (x2 : Int32) (x3 : Int32) (S : v_Sf), H5 x1 x2 x3 S → u_P L xs n d m_J7_fill_53178 5 [(0, .ref 80), (1, .int x1), (2, .int x2), (3, .int x3)] [] S R (z_V R K)) := by
  intro n
  induction n using Nat.strongRecOn with
  | ind n ih =>
    intro d x1 x2 x3 S hD
    have hD := k5 x1 x2 x3 S hD
    unfold D_fill79_5 at hD
    show u_P L xs n d m_J7_fill_53178 5 [(0, .ref 80), (1, .int x1), (2, .int x2), (3, .int x3)] [] S R _
    refine u_st1 rfl (fun _ => rfl) (fun m hm => ?_)
    refine u_st rfl (fun _ => rfl) ?_
    show u_P L xs m d m_J7_fill_53178 7 [(0, .ref 80), (1, .int x1), (2, .int x2), (3, .int x3)] [.int x3, .int x2] S R _
    refine u_ic_ge rfl (fun h1 => ?_) (fun h1 => ?_)
    · have hD := hD.1 h1
      show u_P L xs m d m_J7_fill_53178 20 [(0, .ref 80), (1, .int x1), (2, .int x2), (3, .int x3)] [] S R _
      exact u_ret rfl rfl ⟨rfl, rfl, hD⟩
    · have hD := hD.2 h1
      show u_P L xs m d m_J7_fill_53178 10 [(0, .ref 80), (1, .int x1), (2, .int x2), (3, .int x3)] [] S R _
      refine u_st rfl (fun _ => rfl) ?_
      refine u_st rfl (fun _ => rfl) ?_
      refine u_st rfl (fun _ => rfl) ?_
      show u_P L xs m d m_J7_fill_53178 13 [(0, .ref 80), (1, .int x1), (2, .int x2), (3, .int x3)] [.int x1, .int x2, .ref 80] S R _
      refine u_iast rfl rfl (fun b21 b22 => ?_)
      have hD := hD b21 b22
      show u_P L xs m d m_J7_fill_53178 14 [(0, .ref 80), (1, .int x1), (2, .int x2), (3, .int x3)] [] (z_s S 79 x2.toInt.toNat x1) R _
      refine u_st rfl (fun _ => rfl) ?_
      refine u_st rfl (fun _ => rfl) ?_
      refine u_lc (b := [(0, .ref 80), (1, .int x1), (2, .int (x2 + (Int32.ofInt 1))), (3, .int x3)]) (show ([2, 0, 1, 3] : List Nat).Nodup by decide) (show ([0, 1, 2, 3] : List Nat).Nodup by decide) (fun i => match i with | 0 => rfl | 1 => rfl | 2 => rfl | 3 => rfl | _ + 4 => rfl) ?_
      exact (ih m hm) d x1 (x2 + (Int32.ofInt 1)) x3 (z_s S 79 x2.toInt.toNat x1) hD
set_option maxRecDepth 4000 in
theorem w_fill79 (L : Nat) (xs : Nat → Int32) {R : v_Rf} (v : Int32) (H5 : Int32 → Int32 → Int32 → v_Sf → Prop) (K : v_Sf → Prop) (k5 : ∀ (x1 : Int32) (x2 : Int32) (x3 : Int32) (S : v_Sf), H5 x1 x2 x3 S → D_fill79_5 H5 K x1 x2 x3 S) (n d : Nat) (S : v_Sf) (hD : D_fill79 v H5 K S) : u_P L xs n d m_J7_fill_53178 0 (lv_args 0 [.ref 80, .int v]) [] S R (z_V R K) := by
  unfold D_fill79 at hD
  show u_P L xs n d m_J7_fill_53178 0 [(0, .ref 80), (1, .int v)] [] S R _
  refine u_st rfl (fun _ => rfl) ?_
  refine u_st rfl (fun _ => rfl) ?_
  refine u_st rfl (fun _ => rfl) ?_
  show u_P L xs n d m_J7_fill_53178 3 [(2, .int (Int32.ofInt 0)), (0, .ref 80), (1, .int v)] [.ref 80] S R _
  refine u_al rfl rfl rfl ?_
  refine u_st rfl (fun _ => rfl) ?_
  refine u_lc (b := [(0, .ref 80), (1, .int v), (2, .int (Int32.ofInt 0)), (3, .int (Int32.ofNat 8))]) (show ([3, 2, 0, 1] : List Nat).Nodup by decide) (show ([0, 1, 2, 3] : List Nat).Nodup by decide) (fun i => match i with | 0 => rfl | 1 => rfl | 2 => rfl | 3 => rfl | _ + 4 => rfl) ?_
  exact (hd_fill79 L xs v H5 K k5 n) d v (Int32.ofInt 0) (Int32.ofNat 8) S hD
noncomputable def r_fill79_5 (x1 : Int32) (x3 : Int32) : Nat → Nat → v_Sf → v_Sf
  | 0, k5, S => S
  | r + 1, k5, S => r_fill79_5 x1 x3 r (k5 + 1) (z_s S 79 (z_i k5).toInt.toNat x1)
noncomputable def F_fill79 (v : Int32) (S : v_Sf) : v_Sf := r_fill79_5 v (Int32.ofNat 8) (((Int32.ofNat 8)).toInt.toNat - 0) 0 S
noncomputable def g_fill79 (v : Int32) (S : v_Sf) : v_Sf := F_fill79 v S
theorem c_fill79 (L : Nat) (xs : Nat → Int32) (n d : Nat) (v : Int32) (S : v_Sf) (R : v_Rf) : u_P L xs n d m_J7_fill_53178 0 (lv_args 0 [.ref 80, .int v]) [] S R (z_V R (fun S1 => g_fill79 v S = S1)) := by
  refine w_fill79 L xs v (fun y1 y2 y3 T => ∃ (k5 : Nat), k5 ≤ ((Int32.ofNat 8)).toInt.toNat ∧ z_i k5 = y2 ∧ v = y1 ∧ Int32.ofNat 8 = y3 ∧ r_fill79_5 v (Int32.ofNat 8) (((Int32.ofNat 8)).toInt.toNat - k5) k5 T = F_fill79 v S) (fun S1 => g_fill79 v S = S1) ?_ n d S ?_
  · rintro _ _ _ S1 ⟨k5, hkk, rfl, rfl, rfl, e⟩
    unfold D_fill79_5
    rcases Nat.lt_or_ge k5 (((Int32.ofNat 8)).toInt.toNat) with hk | hk
    · rw [show ((Int32.ofNat 8)).toInt.toNat - k5 = (((Int32.ofNat 8)).toInt.toNat - (k5 + 1)) + 1 by omega, r_fill79_5] at e
      refine ⟨fun q1 => ?_, fun q1 => ?_⟩
      · exact absurd hk (Nat.not_lt.mpr (z_leV q1 (by omega)))
      · intro _ _
        exact ⟨(k5 + 1), by omega, (z_i1 k5).symm, rfl, rfl, e⟩
    · rw [show ((Int32.ofNat 8)).toInt.toNat - k5 = 0 by omega, r_fill79_5] at e
      refine ⟨fun q2 => ?_, fun q2 => ?_⟩
      · exact e.symm
      · exact absurd hk (Nat.not_le.mpr (z_ltV q2 (by omega)))
  · unfold D_fill79
    have e : r_fill79_5 v (Int32.ofNat 8) (((Int32.ofNat 8)).toInt.toNat - 0) 0 S = F_fill79 v S := by rw [F_fill79]
    exact ⟨0, by omega, rfl, rfl, rfl, e⟩
noncomputable abbrev m_X4_learnOdds : g_M := (g_cn 4, yX4_learnOdds, cX4_learnOdds, 4, none, g_look2 ttX4_learnOdds)
set_option maxRecDepth 20000 in
theorem mt_X4_learnOdds : g_mt 52 = some m_X4_learnOdds := rfl
noncomputable def D_X4_learnOdds_10 (c : Nat) (H10 : Int32 → v_Sf → Prop) (H28 : Int32 → Int32 → v_Sf → Prop) (K : v_Sf → Prop) (x2 : Int32) (S : v_Sf) : Prop := (((S 76 4) ≤ x2 → K S) ∧ (¬ ((S 76 4) ≤ x2) → (((Int32.ofInt 8) ≤ x2 → K S) ∧ (¬ ((Int32.ofInt 8) ≤ x2) → H28 x2 (x2 + (Int32.ofInt 1)) S))))
noncomputable def D_X4_learnOdds_28 (c : Nat) (H10 : Int32 → v_Sf → Prop) (H28 : Int32 → Int32 → v_Sf → Prop) (K : v_Sf → Prop) (x2 : Int32) (x3 : Int32) (S : v_Sf) : Prop := (((S 76 4) ≤ x3 → H10 (x2 + (Int32.ofInt 1)) S) ∧ (¬ ((S 76 4) ≤ x3) → (((Int32.ofInt 8) ≤ x3 → H10 (x2 + (Int32.ofInt 1)) S) ∧ (¬ ((Int32.ofInt 8) ≤ x3) → (0 ≤ x2.toInt → x2.toInt < 8 → (0 ≤ x3.toInt → x3.toInt < 8 → (((f_X3_atOdds c 1 (S 77 x2.toInt.toNat) (S 77 x3.toInt.toNat) S) = 0 → H28 x2 (x3 + (Int32.ofInt 1)) (g_X3_atOdds c 1 (S 77 x2.toInt.toNat) (S 77 x3.toInt.toNat) S)) ∧ (¬ ((f_X3_atOdds c 1 (S 77 x2.toInt.toNat) (S 77 x3.toInt.toNat) S) = 0) → (0 ≤ x2.toInt → x2.toInt < 8 → (0 ≤ x2.toInt → x2.toInt < 8 → (0 ≤ x3.toInt → x3.toInt < 8 → (0 ≤ x3.toInt → x3.toInt < 8 → H28 x2 (x3 + (Int32.ofInt 1)) (z_s (z_s (g_X3_atOdds c 1 (S 77 x2.toInt.toNat) (S 77 x3.toInt.toNat) S) 79 x2.toInt.toNat (((g_X3_atOdds c 1 (S 77 x2.toInt.toNat) (S 77 x3.toInt.toNat) S) 79 x2.toInt.toNat) ||| ((Int32.ofInt 1) <<< (x3 &&& 31)))) 79 x3.toInt.toNat (((z_s (g_X3_atOdds c 1 (S 77 x2.toInt.toNat) (S 77 x3.toInt.toNat) S) 79 x2.toInt.toNat (((g_X3_atOdds c 1 (S 77 x2.toInt.toNat) (S 77 x3.toInt.toNat) S) 79 x2.toInt.toNat) ||| ((Int32.ofInt 1) <<< (x3 &&& 31)))) 79 x3.toInt.toNat) ||| ((Int32.ofInt 1) <<< (x2 &&& 31))))))))))))))))
noncomputable def D_X4_learnOdds (c : Nat) (H10 : Int32 → v_Sf → Prop) (H28 : Int32 → Int32 → v_Sf → Prop) (K : v_Sf → Prop) (S : v_Sf) : Prop := H10 (Int32.ofInt 0) (g_fill79 (Int32.ofInt 0) S)
set_option maxRecDepth 4000 in
theorem hd_X4_learnOdds (L : Nat) (xs : Nat → Int32) {R : v_Rf} (hW : z_W R) {c : Nat} (hL : R 50 2 = some (c + 1)) (hc : z_cd c) (H10 : Int32 → v_Sf → Prop) (H28 : Int32 → Int32 → v_Sf → Prop) (K : v_Sf → Prop) (k10 : ∀ (x2 : Int32) (S : v_Sf), H10 x2 S → D_X4_learnOdds_10 c H10 H28 K x2 S) (k28 : ∀ (x2 : Int32) (x3 : Int32) (S : v_Sf), H28 x2 x3 S → D_X4_learnOdds_28 c H10 H28 K x2 x3 S) : ∀ n, (∀ (d : Nat) (x2 : Int32) (S : v_Sf), H10 x2 S → u_P L xs n d m_X4_learnOdds 10 [(0, .ref 77), (1, .ref 2), (2, .int x2)] [] S R (z_V R K)) ∧ (∀ (d : Nat) (j3 : Int32) (x2 : Int32) (S : v_Sf), H10 x2 S → u_P L xs n d m_X4_learnOdds 10 [(0, .ref 77), (1, .ref 2), (2, .int x2), (3, .int j3)] [] S R (z_V R K)) ∧ (∀ (d : Nat) (x2 : Int32) (x3 : Int32) (S : v_Sf), H28 x2 x3 S → u_P L xs n d m_X4_learnOdds 28 [(0, .ref 77), (1, .ref 2), (2, .int x2), (3, .int x3)] [] S R (z_V R K)) := by
  intro n
  induction n using Nat.strongRecOn with
  | ind n ih =>
    refine ⟨?_, ?_, ?_⟩
    · intro d x2 S hD
      have hD := k10 x2 S hD
      unfold D_X4_learnOdds_10 at hD
      show u_P L xs n d m_X4_learnOdds 10 [(0, .ref 77), (1, .ref 2), (2, .int x2)] [] S R _
      refine u_st1 rfl (fun _ => rfl) (fun m hm => ?_)
      refine u_st rfl (fun _ => rfl) ?_
      show u_P L xs m d m_X4_learnOdds 12 [(0, .ref 77), (1, .ref 2), (2, .int x2)] [.ref 77, .int x2] S R _
      refine u_getE (v := S 76 4) rfl rfl rfl rfl ?_
      show u_P L xs m d m_X4_learnOdds 15 [(0, .ref 77), (1, .ref 2), (2, .int x2)] [.int (S 76 4), .int x2] S R _
      refine u_ic_ge rfl (fun h1 => ?_) (fun h1 => ?_)
      · have hD := hD.1 h1
        show u_P L xs m d m_X4_learnOdds 101 [(0, .ref 77), (1, .ref 2), (2, .int x2)] [] S R _
        exact u_ret rfl rfl ⟨rfl, rfl, hD⟩
      · have hD := hD.2 h1
        show u_P L xs m d m_X4_learnOdds 18 [(0, .ref 77), (1, .ref 2), (2, .int x2)] [] S R _
        refine u_st rfl (fun _ => rfl) ?_
        refine u_st rfl (fun _ => rfl) ?_
        show u_P L xs m d m_X4_learnOdds 21 [(0, .ref 77), (1, .ref 2), (2, .int x2)] [.int (Int32.ofInt 8), .int x2] S R _
        refine u_ic_ge rfl (fun h2 => ?_) (fun h2 => ?_)
        · have hD := hD.1 h2
          show u_P L xs m d m_X4_learnOdds 101 [(0, .ref 77), (1, .ref 2), (2, .int x2)] [] S R _
          exact u_ret rfl rfl ⟨rfl, rfl, hD⟩
        · have hD := hD.2 h2
          show u_P L xs m d m_X4_learnOdds 24 [(0, .ref 77), (1, .ref 2), (2, .int x2)] [] S R _
          refine u_st rfl (fun _ => rfl) ?_
          refine u_st rfl (fun _ => rfl) ?_
          refine u_st rfl (fun _ => rfl) ?_
          refine u_st rfl (fun _ => rfl) ?_
          refine u_lc (b := [(0, .ref 77), (1, .ref 2), (2, .int x2), (3, .int (x2 + (Int32.ofInt 1)))]) (show ([3, 0, 1, 2] : List Nat).Nodup by decide) (show ([0, 1, 2, 3] : List Nat).Nodup by decide) (fun i => match i with | 0 => rfl | 1 => rfl | 2 => rfl | 3 => rfl | _ + 4 => rfl) ?_
          exact (ih m hm).2.2 d x2 (x2 + (Int32.ofInt 1)) S hD
    · intro d j3 x2 S hD
      have hD := k10 x2 S hD
      unfold D_X4_learnOdds_10 at hD
      show u_P L xs n d m_X4_learnOdds 10 [(0, .ref 77), (1, .ref 2), (2, .int x2), (3, .int j3)] [] S R _
      refine u_st1 rfl (fun _ => rfl) (fun m hm => ?_)
      refine u_st rfl (fun _ => rfl) ?_
      show u_P L xs m d m_X4_learnOdds 12 [(0, .ref 77), (1, .ref 2), (2, .int x2), (3, .int j3)] [.ref 77, .int x2] S R _
      refine u_getE (v := S 76 4) rfl rfl rfl rfl ?_
      show u_P L xs m d m_X4_learnOdds 15 [(0, .ref 77), (1, .ref 2), (2, .int x2), (3, .int j3)] [.int (S 76 4), .int x2] S R _
      refine u_ic_ge rfl (fun h1 => ?_) (fun h1 => ?_)
      · have hD := hD.1 h1
        show u_P L xs m d m_X4_learnOdds 101 [(0, .ref 77), (1, .ref 2), (2, .int x2), (3, .int j3)] [] S R _
        exact u_ret rfl rfl ⟨rfl, rfl, hD⟩
      · have hD := hD.2 h1
        show u_P L xs m d m_X4_learnOdds 18 [(0, .ref 77), (1, .ref 2), (2, .int x2), (3, .int j3)] [] S R _
        refine u_st rfl (fun _ => rfl) ?_
        refine u_st rfl (fun _ => rfl) ?_
        show u_P L xs m d m_X4_learnOdds 21 [(0, .ref 77), (1, .ref 2), (2, .int x2), (3, .int j3)] [.int (Int32.ofInt 8), .int x2] S R _
        refine u_ic_ge rfl (fun h2 => ?_) (fun h2 => ?_)
        · have hD := hD.1 h2
          show u_P L xs m d m_X4_learnOdds 101 [(0, .ref 77), (1, .ref 2), (2, .int x2), (3, .int j3)] [] S R _
          exact u_ret rfl rfl ⟨rfl, rfl, hD⟩
        · have hD := hD.2 h2
          show u_P L xs m d m_X4_learnOdds 24 [(0, .ref 77), (1, .ref 2), (2, .int x2), (3, .int j3)] [] S R _
          refine u_st rfl (fun _ => rfl) ?_
          refine u_st rfl (fun _ => rfl) ?_
          refine u_st rfl (fun _ => rfl) ?_
          refine u_st rfl (fun _ => rfl) ?_
          refine u_lc (b := [(0, .ref 77), (1, .ref 2), (2, .int x2), (3, .int (x2 + (Int32.ofInt 1)))]) (show ([3, 0, 1, 2] : List Nat).Nodup by decide) (show ([0, 1, 2, 3] : List Nat).Nodup by decide) (fun i => match i with | 0 => rfl | 1 => rfl | 2 => rfl | 3 => rfl | _ + 4 => rfl) ?_
          exact (ih m hm).2.2 d x2 (x2 + (Int32.ofInt 1)) S hD
    · intro d x2 x3 S hD
      have hD := k28 x2 x3 S hD
      unfold D_X4_learnOdds_28 at hD
      show u_P L xs n d m_X4_learnOdds 28 [(0, .ref 77), (1, .ref 2), (2, .int x2), (3, .int x3)] [] S R _
      refine u_st1 rfl (fun _ => rfl) (fun m hm => ?_)
      refine u_st rfl (fun _ => rfl) ?_
      show u_P L xs m d m_X4_learnOdds 30 [(0, .ref 77), (1, .ref 2), (2, .int x2), (3, .int x3)] [.ref 77, .int x3] S R _
      refine u_getE (v := S 76 4) rfl rfl rfl rfl ?_
      show u_P L xs m d m_X4_learnOdds 33 [(0, .ref 77), (1, .ref 2), (2, .int x2), (3, .int x3)] [.int (S 76 4), .int x3] S R _
      refine u_ic_ge rfl (fun h1 => ?_) (fun h1 => ?_)
      · have hD := hD.1 h1
        show u_P L xs m d m_X4_learnOdds 95 [(0, .ref 77), (1, .ref 2), (2, .int x2), (3, .int x3)] [] S R _
        refine u_st rfl (fun _ => rfl) ?_
        refine u_st rfl (fun _ => rfl) ?_
        refine u_lc (b := [(0, .ref 77), (1, .ref 2), (2, .int (x2 + (Int32.ofInt 1))), (3, .int x3)]) (show ([2, 0, 1, 3] : List Nat).Nodup by decide) (show ([0, 1, 2, 3] : List Nat).Nodup by decide) (fun i => match i with | 0 => rfl | 1 => rfl | 2 => rfl | 3 => rfl | _ + 4 => rfl) ?_
        exact (ih m hm).2.1 d x3 (x2 + (Int32.ofInt 1)) S hD
      · have hD := hD.2 h1
        show u_P L xs m d m_X4_learnOdds 36 [(0, .ref 77), (1, .ref 2), (2, .int x2), (3, .int x3)] [] S R _
        refine u_st rfl (fun _ => rfl) ?_
        refine u_st rfl (fun _ => rfl) ?_
        show u_P L xs m d m_X4_learnOdds 39 [(0, .ref 77), (1, .ref 2), (2, .int x2), (3, .int x3)] [.int (Int32.ofInt 8), .int x3] S R _
        refine u_ic_ge rfl (fun h2 => ?_) (fun h2 => ?_)
        · have hD := hD.1 h2
          show u_P L xs m d m_X4_learnOdds 95 [(0, .ref 77), (1, .ref 2), (2, .int x2), (3, .int x3)] [] S R _
          refine u_st rfl (fun _ => rfl) ?_
          refine u_st rfl (fun _ => rfl) ?_
          refine u_lc (b := [(0, .ref 77), (1, .ref 2), (2, .int (x2 + (Int32.ofInt 1))), (3, .int x3)]) (show ([2, 0, 1, 3] : List Nat).Nodup by decide) (show ([0, 1, 2, 3] : List Nat).Nodup by decide) (fun i => match i with | 0 => rfl | 1 => rfl | 2 => rfl | 3 => rfl | _ + 4 => rfl) ?_
          exact (ih m hm).2.1 d x3 (x2 + (Int32.ofInt 1)) S hD
        · have hD := hD.2 h2
          show u_P L xs m d m_X4_learnOdds 42 [(0, .ref 77), (1, .ref 2), (2, .int x2), (3, .int x3)] [] S R _
          refine u_st rfl (fun _ => rfl) ?_
          show u_P L xs m d m_X4_learnOdds 43 [(0, .ref 77), (1, .ref 2), (2, .int x2), (3, .int x3)] [.ref 77] S R _
          refine u_getr rfl rfl rfl ?_
          refine u_st rfl (fun _ => rfl) ?_
          refine u_st rfl (fun _ => rfl) ?_
          show u_P L xs m d m_X4_learnOdds 48 [(0, .ref 77), (1, .ref 2), (2, .int x2), (3, .int x3)] [.ref 77, .ref 2, .ref 51] S R _
          refine u_getr rfl rfl rfl ?_
          refine u_st rfl (fun _ => rfl) ?_
          show u_P L xs m d m_X4_learnOdds 52 [(0, .ref 77), (1, .ref 2), (2, .int x2), (3, .int x3)] [.int x2, .ref 78, .ref 2, .ref 51] S R _
          refine u_ialdE (v := S 77 x2.toInt.toNat) rfl rfl rfl (fun b31 b32 => ?_)
          have hD := hD b31 b32
          show u_P L xs m d m_X4_learnOdds 53 [(0, .ref 77), (1, .ref 2), (2, .int x2), (3, .int x3)] [.int (S 77 x2.toInt.toNat), .ref 2, .ref 51] S R _
          refine u_st rfl (fun _ => rfl) ?_
          show u_P L xs m d m_X4_learnOdds 54 [(0, .ref 77), (1, .ref 2), (2, .int x2), (3, .int x3)] [.ref 77, .int (S 77 x2.toInt.toNat), .ref 2, .ref 51] S R _
          refine u_getr rfl rfl rfl ?_
          refine u_st rfl (fun _ => rfl) ?_
          show u_P L xs m d m_X4_learnOdds 58 [(0, .ref 77), (1, .ref 2), (2, .int x2), (3, .int x3)] [.int x3, .ref 78, .int (S 77 x2.toInt.toNat), .ref 2, .ref 51] S R _
          refine u_ialdE (v := S 77 x3.toInt.toNat) rfl rfl rfl (fun b41 b42 => ?_)
          have hD := hD b41 b42
          show u_P L xs m d m_X4_learnOdds 59 [(0, .ref 77), (1, .ref 2), (2, .int x2), (3, .int x3)] [.int (S 77 x3.toInt.toNat), .int (S 77 x2.toInt.toNat), .ref 2, .ref 51] S R _
          refine u_cv (rest := []) rfl (by decide) mt_X3_atOdds rfl rfl rfl rfl (Nat.le_of_ble_eq_true rfl) (Nat.le_of_ble_eq_true rfl) (Nat.le_of_ble_eq_true rfl) (fun d' => c_X3_atOdds L xs m d' hW hL hc 1 (Or.inl rfl) (S 77 x2.toInt.toNat) (S 77 x3.toInt.toNat) S) ?_
          rintro _ _ _ ⟨_, rfl, rfl, rfl, rfl⟩
          show u_P L xs m d m_X4_learnOdds 62 [(0, .ref 77), (1, .ref 2), (2, .int x2), (3, .int x3)] [.int (f_X3_atOdds c 1 (S 77 x2.toInt.toNat) (S 77 x3.toInt.toNat) S)] (g_X3_atOdds c 1 (S 77 x2.toInt.toNat) (S 77 x3.toInt.toNat) S) R _
          refine u_if_eq rfl (fun h5 => ?_) (fun h5 => ?_)
          · have hD := hD.1 h5
            show u_P L xs m d m_X4_learnOdds 89 [(0, .ref 77), (1, .ref 2), (2, .int x2), (3, .int x3)] [] (g_X3_atOdds c 1 (S 77 x2.toInt.toNat) (S 77 x3.toInt.toNat) S) R _
            refine u_st rfl (fun _ => rfl) ?_
            refine u_st rfl (fun _ => rfl) ?_
            refine u_lc (b := [(0, .ref 77), (1, .ref 2), (2, .int x2), (3, .int (x3 + (Int32.ofInt 1)))]) (show ([3, 0, 1, 2] : List Nat).Nodup by decide) (show ([0, 1, 2, 3] : List Nat).Nodup by decide) (fun i => match i with | 0 => rfl | 1 => rfl | 2 => rfl | 3 => rfl | _ + 4 => rfl) ?_
            exact (ih m hm).2.2 d x2 (x3 + (Int32.ofInt 1)) (g_X3_atOdds c 1 (S 77 x2.toInt.toNat) (S 77 x3.toInt.toNat) S) hD
          · have hD := hD.2 h5
            show u_P L xs m d m_X4_learnOdds 65 [(0, .ref 77), (1, .ref 2), (2, .int x2), (3, .int x3)] [] (g_X3_atOdds c 1 (S 77 x2.toInt.toNat) (S 77 x3.toInt.toNat) S) R _
            refine u_st rfl (fun _ => rfl) ?_
            show u_P L xs m d m_X4_learnOdds 66 [(0, .ref 77), (1, .ref 2), (2, .int x2), (3, .int x3)] [.ref 77] (g_X3_atOdds c 1 (S 77 x2.toInt.toNat) (S 77 x3.toInt.toNat) S) R _
            refine u_getr rfl rfl rfl ?_
            refine u_st rfl (fun _ => rfl) ?_
            refine u_st rfl (fun _ => rfl) ?_
            show u_P L xs m d m_X4_learnOdds 71 [(0, .ref 77), (1, .ref 2), (2, .int x2), (3, .int x3)] [.int x2, .ref 80, .int x2, .ref 80] (g_X3_atOdds c 1 (S 77 x2.toInt.toNat) (S 77 x3.toInt.toNat) S) R _
            refine u_ialdE (v := (g_X3_atOdds c 1 (S 77 x2.toInt.toNat) (S 77 x3.toInt.toNat) S) 79 x2.toInt.toNat) rfl rfl rfl (fun b61 b62 => ?_)
            have hD := hD b61 b62
            show u_P L xs m d m_X4_learnOdds 72 [(0, .ref 77), (1, .ref 2), (2, .int x2), (3, .int x3)] [.int ((g_X3_atOdds c 1 (S 77 x2.toInt.toNat) (S 77 x3.toInt.toNat) S) 79 x2.toInt.toNat), .int x2, .ref 80] (g_X3_atOdds c 1 (S 77 x2.toInt.toNat) (S 77 x3.toInt.toNat) S) R _
            refine u_st rfl (fun _ => rfl) ?_
            refine u_st rfl (fun _ => rfl) ?_
            refine u_st rfl (fun _ => rfl) ?_
            refine u_st rfl (fun _ => rfl) ?_
            show u_P L xs m d m_X4_learnOdds 76 [(0, .ref 77), (1, .ref 2), (2, .int x2), (3, .int x3)] [.int (((g_X3_atOdds c 1 (S 77 x2.toInt.toNat) (S 77 x3.toInt.toNat) S) 79 x2.toInt.toNat) ||| ((Int32.ofInt 1) <<< (x3 &&& 31))), .int x2, .ref 80] (g_X3_atOdds c 1 (S 77 x2.toInt.toNat) (S 77 x3.toInt.toNat) S) R _
            refine u_iast rfl rfl (fun b71 b72 => ?_)
            have hD := hD b71 b72
            show u_P L xs m d m_X4_learnOdds 77 [(0, .ref 77), (1, .ref 2), (2, .int x2), (3, .int x3)] [] (z_s (g_X3_atOdds c 1 (S 77 x2.toInt.toNat) (S 77 x3.toInt.toNat) S) 79 x2.toInt.toNat (((g_X3_atOdds c 1 (S 77 x2.toInt.toNat) (S 77 x3.toInt.toNat) S) 79 x2.toInt.toNat) ||| ((Int32.ofInt 1) <<< (x3 &&& 31)))) R _
            refine u_st rfl (fun _ => rfl) ?_
            show u_P L xs m d m_X4_learnOdds 78 [(0, .ref 77), (1, .ref 2), (2, .int x2), (3, .int x3)] [.ref 77] (z_s (g_X3_atOdds c 1 (S 77 x2.toInt.toNat) (S 77 x3.toInt.toNat) S) 79 x2.toInt.toNat (((g_X3_atOdds c 1 (S 77 x2.toInt.toNat) (S 77 x3.toInt.toNat) S) 79 x2.toInt.toNat) ||| ((Int32.ofInt 1) <<< (x3 &&& 31)))) R _
            refine u_getr rfl rfl rfl ?_
            refine u_st rfl (fun _ => rfl) ?_
            refine u_st rfl (fun _ => rfl) ?_
            show u_P L xs m d m_X4_learnOdds 83 [(0, .ref 77), (1, .ref 2), (2, .int x2), (3, .int x3)] [.int x3, .ref 80, .int x3, .ref 80] (z_s (g_X3_atOdds c 1 (S 77 x2.toInt.toNat) (S 77 x3.toInt.toNat) S) 79 x2.toInt.toNat (((g_X3_atOdds c 1 (S 77 x2.toInt.toNat) (S 77 x3.toInt.toNat) S) 79 x2.toInt.toNat) ||| ((Int32.ofInt 1) <<< (x3 &&& 31)))) R _
            refine u_ialdE (v := (z_s (g_X3_atOdds c 1 (S 77 x2.toInt.toNat) (S 77 x3.toInt.toNat) S) 79 x2.toInt.toNat (((g_X3_atOdds c 1 (S 77 x2.toInt.toNat) (S 77 x3.toInt.toNat) S) 79 x2.toInt.toNat) ||| ((Int32.ofInt 1) <<< (x3 &&& 31)))) 79 x3.toInt.toNat) rfl rfl rfl (fun b81 b82 => ?_)
            have hD := hD b81 b82
            show u_P L xs m d m_X4_learnOdds 84 [(0, .ref 77), (1, .ref 2), (2, .int x2), (3, .int x3)] [.int ((z_s (g_X3_atOdds c 1 (S 77 x2.toInt.toNat) (S 77 x3.toInt.toNat) S) 79 x2.toInt.toNat (((g_X3_atOdds c 1 (S 77 x2.toInt.toNat) (S 77 x3.toInt.toNat) S) 79 x2.toInt.toNat) ||| ((Int32.ofInt 1) <<< (x3 &&& 31)))) 79 x3.toInt.toNat), .int x3, .ref 80] (z_s (g_X3_atOdds c 1 (S 77 x2.toInt.toNat) (S 77 x3.toInt.toNat) S) 79 x2.toInt.toNat (((g_X3_atOdds c 1 (S 77 x2.toInt.toNat) (S 77 x3.toInt.toNat) S) 79 x2.toInt.toNat) ||| ((Int32.ofInt 1) <<< (x3 &&& 31)))) R _
            refine u_st rfl (fun _ => rfl) ?_
            refine u_st rfl (fun _ => rfl) ?_
            refine u_st rfl (fun _ => rfl) ?_
            refine u_st rfl (fun _ => rfl) ?_
            show u_P L xs m d m_X4_learnOdds 88 [(0, .ref 77), (1, .ref 2), (2, .int x2), (3, .int x3)] [.int (((z_s (g_X3_atOdds c 1 (S 77 x2.toInt.toNat) (S 77 x3.toInt.toNat) S) 79 x2.toInt.toNat (((g_X3_atOdds c 1 (S 77 x2.toInt.toNat) (S 77 x3.toInt.toNat) S) 79 x2.toInt.toNat) ||| ((Int32.ofInt 1) <<< (x3 &&& 31)))) 79 x3.toInt.toNat) ||| ((Int32.ofInt 1) <<< (x2 &&& 31))), .int x3, .ref 80] (z_s (g_X3_atOdds c 1 (S 77 x2.toInt.toNat) (S 77 x3.toInt.toNat) S) 79 x2.toInt.toNat (((g_X3_atOdds c 1 (S 77 x2.toInt.toNat) (S 77 x3.toInt.toNat) S) 79 x2.toInt.toNat) ||| ((Int32.ofInt 1) <<< (x3 &&& 31)))) R _
            refine u_iast rfl rfl (fun b91 b92 => ?_)
            have hD := hD b91 b92
            show u_P L xs m d m_X4_learnOdds 89 [(0, .ref 77), (1, .ref 2), (2, .int x2), (3, .int x3)] [] (z_s (z_s (g_X3_atOdds c 1 (S 77 x2.toInt.toNat) (S 77 x3.toInt.toNat) S) 79 x2.toInt.toNat (((g_X3_atOdds c 1 (S 77 x2.toInt.toNat) (S 77 x3.toInt.toNat) S) 79 x2.toInt.toNat) ||| ((Int32.ofInt 1) <<< (x3 &&& 31)))) 79 x3.toInt.toNat (((z_s (g_X3_atOdds c 1 (S 77 x2.toInt.toNat) (S 77 x3.toInt.toNat) S) 79 x2.toInt.toNat (((g_X3_atOdds c 1 (S 77 x2.toInt.toNat) (S 77 x3.toInt.toNat) S) 79 x2.toInt.toNat) ||| ((Int32.ofInt 1) <<< (x3 &&& 31)))) 79 x3.toInt.toNat) ||| ((Int32.ofInt 1) <<< (x2 &&& 31)))) R _
            refine u_st rfl (fun _ => rfl) ?_
            refine u_st rfl (fun _ => rfl) ?_
            refine u_lc (b := [(0, .ref 77), (1, .ref 2), (2, .int x2), (3, .int (x3 + (Int32.ofInt 1)))]) (show ([3, 0, 1, 2] : List Nat).Nodup by decide) (show ([0, 1, 2, 3] : List Nat).Nodup by decide) (fun i => match i with | 0 => rfl | 1 => rfl | 2 => rfl | 3 => rfl | _ + 4 => rfl) ?_
            exact (ih m hm).2.2 d x2 (x3 + (Int32.ofInt 1)) (z_s (z_s (g_X3_atOdds c 1 (S 77 x2.toInt.toNat) (S 77 x3.toInt.toNat) S) 79 x2.toInt.toNat (((g_X3_atOdds c 1 (S 77 x2.toInt.toNat) (S 77 x3.toInt.toNat) S) 79 x2.toInt.toNat) ||| ((Int32.ofInt 1) <<< (x3 &&& 31)))) 79 x3.toInt.toNat (((z_s (g_X3_atOdds c 1 (S 77 x2.toInt.toNat) (S 77 x3.toInt.toNat) S) 79 x2.toInt.toNat (((g_X3_atOdds c 1 (S 77 x2.toInt.toNat) (S 77 x3.toInt.toNat) S) 79 x2.toInt.toNat) ||| ((Int32.ofInt 1) <<< (x3 &&& 31)))) 79 x3.toInt.toNat) ||| ((Int32.ofInt 1) <<< (x2 &&& 31)))) hD
set_option maxRecDepth 4000 in
theorem w_X4_learnOdds (L : Nat) (xs : Nat → Int32) {R : v_Rf} (hW : z_W R) {c : Nat} (hL : R 50 2 = some (c + 1)) (hc : z_cd c) (H10 : Int32 → v_Sf → Prop) (H28 : Int32 → Int32 → v_Sf → Prop) (K : v_Sf → Prop) (k10 : ∀ (x2 : Int32) (S : v_Sf), H10 x2 S → D_X4_learnOdds_10 c H10 H28 K x2 S) (k28 : ∀ (x2 : Int32) (x3 : Int32) (S : v_Sf), H28 x2 x3 S → D_X4_learnOdds_28 c H10 H28 K x2 x3 S) (n d : Nat) (S : v_Sf) (hD : D_X4_learnOdds c H10 H28 K S) : u_P L xs n d m_X4_learnOdds 0 (lv_args 0 [.ref 77, .ref 2]) [] S R (z_V R K) := by
  unfold D_X4_learnOdds at hD
  show u_P L xs n d m_X4_learnOdds 0 [(0, .ref 77), (1, .ref 2)] [] S R _
  refine u_st rfl (fun _ => rfl) ?_
  show u_P L xs n d m_X4_learnOdds 1 [(0, .ref 77), (1, .ref 2)] [.ref 77] S R _
  refine u_getr rfl rfl rfl ?_
  refine u_st rfl (fun _ => rfl) ?_
  show u_P L xs n d m_X4_learnOdds 5 [(0, .ref 77), (1, .ref 2)] [.int (Int32.ofInt 0), .ref 80] S R _
  refine u_cs (ac := [.ref 80, .int (Int32.ofInt 0)]) (rest := []) rfl (by decide) mt_J7_fill_53178 (fun _ => rfl) (Nat.le_of_ble_eq_true rfl) (Nat.le_of_ble_eq_true rfl) (fun d' => c_fill79 L xs n d' (Int32.ofInt 0) S R) ?_
  rintro _ _ _ ⟨rfl, rfl, rfl⟩
  refine u_st rfl (fun _ => rfl) ?_
  refine u_st rfl (fun _ => rfl) ?_
  refine u_lc (b := [(0, .ref 77), (1, .ref 2), (2, .int (Int32.ofInt 0))]) (show ([2, 0, 1] : List Nat).Nodup by decide) (show ([0, 1, 2] : List Nat).Nodup by decide) (fun i => match i with | 0 => rfl | 1 => rfl | 2 => rfl | _ + 3 => rfl) ?_
  exact (hd_X4_learnOdds L xs hW hL hc H10 H28 K k10 k28 n).1 d (Int32.ofInt 0) (g_fill79 (Int32.ofInt 0) S) hD
noncomputable def r_X4_learnOdds_28 (c : Nat) (κ10 : v_Sf → v_Sf) (k10 : Nat) : Nat → Nat → v_Sf → v_Sf
  | 0, k28, S => κ10 S
  | r + 1, k28, S => (if (S 76 4) ≤ (z_i k28) then κ10 S else (if (Int32.ofInt 8) ≤ (z_i k28) then κ10 S else (if (f_X3_atOdds c 1 (S 77 (z_i k10).toInt.toNat) (S 77 (z_i k28).toInt.toNat) S) = 0 then r_X4_learnOdds_28 c κ10 k10 r (k28 + 1) (g_X3_atOdds c 1 (S 77 (z_i k10).toInt.toNat) (S 77 (z_i k28).toInt.toNat) S) else r_X4_learnOdds_28 c κ10 k10 r (k28 + 1) (z_s (z_s (g_X3_atOdds c 1 (S 77 (z_i k10).toInt.toNat) (S 77 (z_i k28).toInt.toNat) S) 79 (z_i k10).toInt.toNat (((g_X3_atOdds c 1 (S 77 (z_i k10).toInt.toNat) (S 77 (z_i k28).toInt.toNat) S) 79 (z_i k10).toInt.toNat) ||| ((Int32.ofInt 1) <<< ((z_i k28) &&& 31)))) 79 (z_i k28).toInt.toNat (((z_s (g_X3_atOdds c 1 (S 77 (z_i k10).toInt.toNat) (S 77 (z_i k28).toInt.toNat) S) 79 (z_i k10).toInt.toNat (((g_X3_atOdds c 1 (S 77 (z_i k10).toInt.toNat) (S 77 (z_i k28).toInt.toNat) S) 79 (z_i k10).toInt.toNat) ||| ((Int32.ofInt 1) <<< ((z_i k28) &&& 31)))) 79 (z_i k28).toInt.toNat) ||| ((Int32.ofInt 1) <<< ((z_i k10) &&& 31)))))))
theorem r8_X4_learnOdds_28 {c : Nat} {κ10 : v_Sf → v_Sf} {k10 : Nat} {k : Nat} (h : 8 ≤ k) (h2 : k ≤ 8) {S : v_Sf} : r_X4_learnOdds_28 c κ10 k10 0 k S = r_X4_learnOdds_28 c κ10 k10 (0 + 1) k S := by
  rw [r_X4_learnOdds_28, r_X4_learnOdds_28]
  by_cases q : (S 76 4) ≤ (z_i k)
  · rw [if_pos q]
  · rw [if_neg q, if_pos (z_8le h h2)]
noncomputable def r_X4_learnOdds_10 (c : Nat) : Nat → Nat → v_Sf → v_Sf
  | 0, k10, S => S
  | r + 1, k10, S => (if (S 76 4) ≤ (z_i k10) then S else (if (Int32.ofInt 8) ≤ (z_i k10) then S else r_X4_learnOdds_28 c (fun S => r_X4_learnOdds_10 c r (k10 + 1) S) k10 (8 - (k10 + 1)) (k10 + 1) S))
theorem r8_X4_learnOdds_10 {c : Nat} {k : Nat} (h : 8 ≤ k) (h2 : k ≤ 8) {S : v_Sf} : r_X4_learnOdds_10 c 0 k S = r_X4_learnOdds_10 c (0 + 1) k S := by
  rw [r_X4_learnOdds_10, r_X4_learnOdds_10]
  by_cases q : (S 76 4) ≤ (z_i k)
  · rw [if_pos q]
  · rw [if_neg q, if_pos (z_8le h h2)]
noncomputable def F_X4_learnOdds (c : Nat) (S : v_Sf) : v_Sf := r_X4_learnOdds_10 c (8 - 0) 0 (g_fill79 (Int32.ofInt 0) S)
noncomputable def g_X4_learnOdds (c : Nat) (S : v_Sf) : v_Sf := F_X4_learnOdds c S
theorem c_X4_learnOdds (L : Nat) (xs : Nat → Int32) (n d : Nat) {R : v_Rf} (hW : z_W R) {c : Nat} (hL : R 50 2 = some (c + 1)) (hc : z_cd c) (S : v_Sf) : u_P L xs n d m_X4_learnOdds 0 (lv_args 0 [.ref 77, .ref 2]) [] S R (z_V R (fun S1 => g_X4_learnOdds c S = S1)) := by
  refine w_X4_learnOdds L xs hW hL hc (fun y2 T => ∃ (k10 : Nat), k10 ≤ 8 ∧ z_i k10 = y2 ∧ r_X4_learnOdds_10 c (8 - k10) k10 T = F_X4_learnOdds c S) (fun y2 y3 T => ∃ (k10 k28 : Nat), k28 ≤ 8 ∧ z_i k28 = y3 ∧ k10 ≤ 7 ∧ k10 ≤ 7 ∧ z_i k10 = y2 ∧ r_X4_learnOdds_28 c (fun V => r_X4_learnOdds_10 c (8 - (k10 + 1)) (k10 + 1) V) k10 (8 - k28) k28 T = F_X4_learnOdds c S) (fun S1 => g_X4_learnOdds c S = S1) ?_ ?_ n d S ?_
  · rintro _ S1 ⟨k10, hkk, rfl, e⟩
    unfold D_X4_learnOdds_10
    rcases Nat.lt_or_ge k10 (8) with hk | hk
    · rw [show 8 - k10 = (8 - (k10 + 1)) + 1 by omega, r_X4_learnOdds_10] at e
      refine ⟨fun q1 => ?_, fun q1 => ?_⟩
      · rw [if_pos q1] at e
        exact e.symm
      · refine ⟨fun q2 => ?_, fun q2 => ?_⟩
        · rw [if_neg q1, if_pos q2] at e
          exact e.symm
        · rw [if_neg q1, if_neg q2] at e
          exact ⟨k10, (k10 + 1), by omega, (z_i1 k10).symm, by omega, by omega, rfl, e⟩
    · rw [show 8 - k10 = 0 by omega, r8_X4_learnOdds_10 hk hkk, r_X4_learnOdds_10] at e
      refine ⟨fun q1 => ?_, fun q1 => ?_⟩
      · rw [if_pos q1] at e
        exact e.symm
      · refine ⟨fun q2 => ?_, fun q2 => ?_⟩
        · rw [if_neg q1, if_pos q2] at e
          exact e.symm
        · exact absurd (z_8le hk hkk) q2
  · rintro _ _ S1 ⟨k10, k28, hkk, rfl, hk10, hz10, rfl, e⟩
    unfold D_X4_learnOdds_28
    rcases Nat.lt_or_ge k28 (8) with hk | hk
    · rw [show 8 - k28 = (8 - (k28 + 1)) + 1 by omega, r_X4_learnOdds_28] at e
      refine ⟨fun q3 => ?_, fun q3 => ?_⟩
      · rw [if_pos q3] at e
        exact ⟨(k10 + 1), by omega, (z_i1 k10).symm, e⟩
      · refine ⟨fun q4 => ?_, fun q4 => ?_⟩
        · rw [if_neg q3, if_pos q4] at e
          exact ⟨(k10 + 1), by omega, (z_i1 k10).symm, e⟩
        · intro _ _
          intro _ _
          refine ⟨fun q5 => ?_, fun q5 => ?_⟩
          · rw [if_neg q3, if_neg q4, if_pos q5] at e
            exact ⟨k10, (k28 + 1), by omega, (z_i1 k28).symm, by omega, by omega, rfl, e⟩
          · intro _ _
            intro _ _
            intro _ _
            intro _ _
            rw [if_neg q3, if_neg q4, if_neg q5] at e
            exact ⟨k10, (k28 + 1), by omega, (z_i1 k28).symm, by omega, by omega, rfl, e⟩
    · rw [show 8 - k28 = 0 by omega, r8_X4_learnOdds_28 hk hkk, r_X4_learnOdds_28] at e
      refine ⟨fun q3 => ?_, fun q3 => ?_⟩
      · rw [if_pos q3] at e
        exact ⟨(k10 + 1), by omega, (z_i1 k10).symm, e⟩
      · refine ⟨fun q4 => ?_, fun q4 => ?_⟩
        · rw [if_neg q3, if_pos q4] at e
          exact ⟨(k10 + 1), by omega, (z_i1 k10).symm, e⟩
        · exact absurd (z_8le hk hkk) q4
  · unfold D_X4_learnOdds
    have e : r_X4_learnOdds_10 c (8 - 0) 0 (g_fill79 (Int32.ofInt 0) S) = F_X4_learnOdds c S := by rw [F_X4_learnOdds]
    exact ⟨0, by omega, rfl, e⟩
noncomputable abbrev m_X4_keepRow : g_M := (g_cn 4, yX4_keepRow, cX4_keepRow, 2, none, g_look2 ttX4_keepRow)
set_option maxRecDepth 20000 in
theorem mt_X4_keepRow : g_mt 55 = some m_X4_keepRow := rfl
noncomputable def g_X4_keepRow (a : Int32) (S : v_Sf) : v_Sf := z_cp (z_s S 76 12 a) 83 84 (Int32.ofInt 8)
set_option maxRecDepth 4000 in
theorem c_X4_keepRow (L : Nat) (xs : Nat → Int32) (n d : Nat) (a : Int32) (S : v_Sf) (R : v_Rf) : u_P L xs n d m_X4_keepRow 0 (lv_args 0 [.ref 77, .int a]) [] S R (z_V R (fun S1 => g_X4_keepRow a S = S1)) := by
  show u_P L xs n d m_X4_keepRow 0 [(0, .ref 77), (1, .int a)] [] S R _
  refine u_st rfl (fun _ => rfl) ?_
  refine u_st rfl (fun _ => rfl) ?_
  show u_P L xs n d m_X4_keepRow 2 [(0, .ref 77), (1, .int a)] [.int a, .ref 77] S R _
  refine u_put rfl rfl rfl ?_
  refine u_st rfl (fun _ => rfl) ?_
  show u_P L xs n d m_X4_keepRow 6 [(0, .ref 77), (1, .int a)] [.ref 77] (z_s S 76 12 a) R _
  refine u_getr rfl rfl rfl ?_
  refine u_st rfl (fun _ => rfl) ?_
  refine u_st rfl (fun _ => rfl) ?_
  show u_P L xs n d m_X4_keepRow 11 [(0, .ref 77), (1, .int a)] [.ref 77, .int (Int32.ofInt 0), .ref 84] (z_s S 76 12 a) R _
  refine u_getr rfl rfl rfl ?_
  refine u_st rfl (fun _ => rfl) ?_
  refine u_st rfl (fun _ => rfl) ?_
  show u_P L xs n d m_X4_keepRow 17 [(0, .ref 77), (1, .int a)] [.int (Int32.ofInt 8), .int (Int32.ofInt 0), .ref 85, .int (Int32.ofInt 0), .ref 84] (z_s S 76 12 a) R _
  refine u_cp rfl rfl rfl (fun b11 b12 b13 => ?_)
  show u_P L xs n d m_X4_keepRow 20 [(0, .ref 77), (1, .int a)] [] (z_cp (z_s S 76 12 a) 83 84 (Int32.ofInt 8)) R _
  exact u_ret rfl rfl ⟨rfl, rfl, rfl⟩
noncomputable abbrev m_X4_chosenFor : g_M := (g_cn 4, yX4_chosenFor, cX4_chosenFor, 4, (some .int), g_look2 ttX4_chosenFor)
set_option maxRecDepth 20000 in
theorem mt_X4_chosenFor : g_mt 48 = some m_X4_chosenFor := rfl
noncomputable def f_X4_chosenFor (a : Int32) (b : Int32) (S : v_Sf) : Int32 := (if ¬ (f_X11_isIn a b) = 0 then (if (Int32.ofInt 8) ≤ (f_X11_placeIn a b) then Int32.ofInt (-1) else (if (S 84 ((f_X11_placeIn a b).toInt.toNat)) < 0 then Int32.ofInt (-1) else (if (S 84 ((f_X11_placeIn a b).toInt.toNat)) < (Int32.ofInt 8) then S 78 ((S 84 ((f_X11_placeIn a b).toInt.toNat)).toInt.toNat) else Int32.ofInt (-1)))) else Int32.ofInt (-1))
set_option maxRecDepth 4000 in
theorem c_X4_chosenFor (L : Nat) (xs : Nat → Int32) (n d : Nat) (a : Int32) (b : Int32) (S : v_Sf) (R : v_Rf) : u_P L xs n d m_X4_chosenFor 0 (lv_args 0 [.ref 77, .int a, .int b]) [] S R (z_Q R (fun v S1 => f_X4_chosenFor a b S = v ∧ S = S1)) := by
  show u_P L xs n d m_X4_chosenFor 0 [(0, .ref 77), (1, .int a), (2, .int b)] [] S R _
  refine u_st rfl (fun _ => rfl) ?_
  refine u_st rfl (fun _ => rfl) ?_
  show u_P L xs n d m_X4_chosenFor 2 [(0, .ref 77), (1, .int a), (2, .int b)] [.int b, .int a] S R _
  refine u_cs (ac := [.int a, .int b]) (rest := []) rfl (by decide) mt_X11_isIn (fun _ => rfl) (Nat.le_of_ble_eq_true rfl) (Nat.le_of_ble_eq_true rfl) (fun d' => c_X11_isIn L xs n d' a b S R) ?_
  rintro _ _ _ ⟨_, rfl, rfl, rfl, rfl⟩
  show u_P L xs n d m_X4_chosenFor 5 [(0, .ref 77), (1, .int a), (2, .int b)] [.int (f_X11_isIn a b)] S R _
  refine u_if_ne rfl (fun h1 => ?_) (fun h1 => ?_)
  · show u_P L xs n d m_X4_chosenFor 10 [(0, .ref 77), (1, .int a), (2, .int b)] [] S R _
    refine u_st rfl (fun _ => rfl) ?_
    refine u_st rfl (fun _ => rfl) ?_
    show u_P L xs n d m_X4_chosenFor 12 [(0, .ref 77), (1, .int a), (2, .int b)] [.int b, .int a] S R _
    refine u_cs (ac := [.int a, .int b]) (rest := []) rfl (by decide) mt_X11_placeIn (fun _ => rfl) (Nat.le_of_ble_eq_true rfl) (Nat.le_of_ble_eq_true rfl) (fun d' => c_X11_placeIn L xs n d' a b S R) ?_
    rintro _ _ _ ⟨_, rfl, rfl, rfl, rfl⟩
    refine u_st rfl (fun _ => rfl) ?_
    refine u_st rfl (fun _ => rfl) ?_
    refine u_st rfl (fun _ => rfl) ?_
    show u_P L xs n d m_X4_chosenFor 19 [(3, .int (f_X11_placeIn a b)), (0, .ref 77), (1, .int a), (2, .int b)] [.int (Int32.ofInt 8), .int (f_X11_placeIn a b)] S R _
    refine u_ic_ge rfl (fun h2 => ?_) (fun h2 => ?_)
    · show u_P L xs n d m_X4_chosenFor 42 [(3, .int (f_X11_placeIn a b)), (0, .ref 77), (1, .int a), (2, .int b)] [] S R _
      refine u_st rfl (fun _ => rfl) ?_
      show u_P L xs n d m_X4_chosenFor 43 [(3, .int (f_X11_placeIn a b)), (0, .ref 77), (1, .int a), (2, .int b)] [.int (Int32.ofInt (-1))] S R _
      exact u_ret rfl rfl ⟨_, rfl, rfl, by rw [f_X4_chosenFor, if_pos h1, if_pos h2], rfl⟩
    · show u_P L xs n d m_X4_chosenFor 22 [(3, .int (f_X11_placeIn a b)), (0, .ref 77), (1, .int a), (2, .int b)] [] S R _
      refine u_st rfl (fun _ => rfl) ?_
      show u_P L xs n d m_X4_chosenFor 23 [(3, .int (f_X11_placeIn a b)), (0, .ref 77), (1, .int a), (2, .int b)] [.ref 77] S R _
      refine u_getr rfl rfl rfl ?_
      refine u_st rfl (fun _ => rfl) ?_
      show u_P L xs n d m_X4_chosenFor 27 [(3, .int (f_X11_placeIn a b)), (0, .ref 77), (1, .int a), (2, .int b)] [.int (f_X11_placeIn a b), .ref 85] S R _
      refine u_ialdE (v := S 84 ((f_X11_placeIn a b).toInt.toNat)) rfl rfl rfl (fun b31 b32 => ?_)
      show u_P L xs n d m_X4_chosenFor 28 [(3, .int (f_X11_placeIn a b)), (0, .ref 77), (1, .int a), (2, .int b)] [.int (S 84 ((f_X11_placeIn a b).toInt.toNat))] S R _
      refine u_if_lt rfl (fun h4 => ?_) (fun h4 => ?_)
      · show u_P L xs n d m_X4_chosenFor 42 [(3, .int (f_X11_placeIn a b)), (0, .ref 77), (1, .int a), (2, .int b)] [] S R _
        refine u_st rfl (fun _ => rfl) ?_
        show u_P L xs n d m_X4_chosenFor 43 [(3, .int (f_X11_placeIn a b)), (0, .ref 77), (1, .int a), (2, .int b)] [.int (Int32.ofInt (-1))] S R _
        exact u_ret rfl rfl ⟨_, rfl, rfl, by rw [f_X4_chosenFor, if_pos h1, if_neg h2, if_pos h4], rfl⟩
      · show u_P L xs n d m_X4_chosenFor 31 [(3, .int (f_X11_placeIn a b)), (0, .ref 77), (1, .int a), (2, .int b)] [] S R _
        refine u_st rfl (fun _ => rfl) ?_
        show u_P L xs n d m_X4_chosenFor 32 [(3, .int (f_X11_placeIn a b)), (0, .ref 77), (1, .int a), (2, .int b)] [.ref 77] S R _
        refine u_getr rfl rfl rfl ?_
        refine u_st rfl (fun _ => rfl) ?_
        show u_P L xs n d m_X4_chosenFor 36 [(3, .int (f_X11_placeIn a b)), (0, .ref 77), (1, .int a), (2, .int b)] [.int (f_X11_placeIn a b), .ref 85] S R _
        refine u_ialdE (v := S 84 ((f_X11_placeIn a b).toInt.toNat)) rfl rfl rfl (fun b51 b52 => ?_)
        refine u_st rfl (fun _ => rfl) ?_
        show u_P L xs n d m_X4_chosenFor 39 [(3, .int (f_X11_placeIn a b)), (0, .ref 77), (1, .int a), (2, .int b)] [.int (Int32.ofInt 8), .int (S 84 ((f_X11_placeIn a b).toInt.toNat))] S R _
        refine u_ic_lt rfl (fun h6 => ?_) (fun h6 => ?_)
        · show u_P L xs n d m_X4_chosenFor 44 [(3, .int (f_X11_placeIn a b)), (0, .ref 77), (1, .int a), (2, .int b)] [] S R _
          refine u_st rfl (fun _ => rfl) ?_
          show u_P L xs n d m_X4_chosenFor 45 [(3, .int (f_X11_placeIn a b)), (0, .ref 77), (1, .int a), (2, .int b)] [.ref 77] S R _
          refine u_getr rfl rfl rfl ?_
          refine u_st rfl (fun _ => rfl) ?_
          show u_P L xs n d m_X4_chosenFor 49 [(3, .int (f_X11_placeIn a b)), (0, .ref 77), (1, .int a), (2, .int b)] [.ref 77, .ref 79] S R _
          refine u_getr rfl rfl rfl ?_
          refine u_st rfl (fun _ => rfl) ?_
          show u_P L xs n d m_X4_chosenFor 53 [(3, .int (f_X11_placeIn a b)), (0, .ref 77), (1, .int a), (2, .int b)] [.int (f_X11_placeIn a b), .ref 85, .ref 79] S R _
          refine u_ialdE (v := S 84 ((f_X11_placeIn a b).toInt.toNat)) rfl rfl rfl (fun b71 b72 => ?_)
          show u_P L xs n d m_X4_chosenFor 54 [(3, .int (f_X11_placeIn a b)), (0, .ref 77), (1, .int a), (2, .int b)] [.int (S 84 ((f_X11_placeIn a b).toInt.toNat)), .ref 79] S R _
          refine u_ialdE (v := S 78 ((S 84 ((f_X11_placeIn a b).toInt.toNat)).toInt.toNat)) rfl rfl rfl (fun b81 b82 => ?_)
          show u_P L xs n d m_X4_chosenFor 55 [(3, .int (f_X11_placeIn a b)), (0, .ref 77), (1, .int a), (2, .int b)] [.int (S 78 ((S 84 ((f_X11_placeIn a b).toInt.toNat)).toInt.toNat))] S R _
          exact u_ret rfl rfl ⟨_, rfl, rfl, by rw [f_X4_chosenFor, if_pos h1, if_neg h2, if_neg h4, if_pos h6], rfl⟩
        · show u_P L xs n d m_X4_chosenFor 42 [(3, .int (f_X11_placeIn a b)), (0, .ref 77), (1, .int a), (2, .int b)] [] S R _
          refine u_st rfl (fun _ => rfl) ?_
          show u_P L xs n d m_X4_chosenFor 43 [(3, .int (f_X11_placeIn a b)), (0, .ref 77), (1, .int a), (2, .int b)] [.int (Int32.ofInt (-1))] S R _
          exact u_ret rfl rfl ⟨_, rfl, rfl, by rw [f_X4_chosenFor, if_pos h1, if_neg h2, if_neg h4, if_neg h6], rfl⟩
  · show u_P L xs n d m_X4_chosenFor 8 [(0, .ref 77), (1, .int a), (2, .int b)] [] S R _
    refine u_st rfl (fun _ => rfl) ?_
    show u_P L xs n d m_X4_chosenFor 9 [(0, .ref 77), (1, .int a), (2, .int b)] [.int (Int32.ofInt (-1))] S R _
    exact u_ret rfl rfl ⟨_, rfl, rfl, by rw [f_X4_chosenFor, if_neg h1], rfl⟩
noncomputable abbrev m_X4_lodgeFrom : g_M := (g_cn 4, yX4_lodgeFrom, cX4_lodgeFrom, 5, none, g_look2 ttX4_lodgeFrom)
set_option maxRecDepth 20000 in
theorem mt_X4_lodgeFrom : g_mt 53 = some m_X4_lodgeFrom := rfl
noncomputable def D_lodgeF_31 (pr : Int32 → Prop) (φ : Int32 → Int32 → v_Sf → v_Sf) (H31 : Int32 → Int32 → Int32 → v_Sf → Prop) (K : v_Sf → Prop) (x1 : Int32) (x2 : Int32) (x3 : Int32) (S : v_Sf) : Prop := (((S 76 5) ≤ x3 → K S) ∧ (¬ ((S 76 5) ≤ x3) → (((Int32.ofInt 8) ≤ x3 → K S) ∧ (¬ ((Int32.ofInt 8) ≤ x3) → (0 ≤ x3.toInt → x3.toInt < 8 → (0 ≤ x3.toInt → x3.toInt < 8 → (((S 80 x3.toInt.toNat) ≤ (f_J6_bitCount_0f7a4 (S 81 x3.toInt.toNat)) → H31 x1 x2 (x3 + (Int32.ofInt 1)) S) ∧ (¬ ((S 80 x3.toInt.toNat) ≤ (f_J6_bitCount_0f7a4 (S 81 x3.toInt.toNat))) → (0 ≤ x3.toInt → x3.toInt < 8 → (0 ≤ x1.toInt → x1.toInt < 8 → (0 ≤ x1.toInt → x1.toInt < 8 → (0 ≤ x3.toInt → x3.toInt < 8 → (0 ≤ x3.toInt → x3.toInt < 8 → (pr (x1 + (Int32.ofInt 1)) ∧ (0 ≤ x3.toInt → x3.toInt < 8 → (0 ≤ x3.toInt → x3.toInt < 8 → H31 x1 x2 (x3 + (Int32.ofInt 1)) (z_s (φ (x1 + (Int32.ofInt 1)) (x2 + (f_J6_bitCount_0f7a4 ((S 81 x3.toInt.toNat) &&& (S 79 x1.toInt.toNat)))) (z_s (z_s S 83 x1.toInt.toNat x3) 81 x3.toInt.toNat ((S 81 x3.toInt.toNat) ||| ((Int32.ofInt 1) <<< (x1 &&& 31))))) 81 x3.toInt.toNat (((φ (x1 + (Int32.ofInt 1)) (x2 + (f_J6_bitCount_0f7a4 ((S 81 x3.toInt.toNat) &&& (S 79 x1.toInt.toNat)))) (z_s (z_s S 83 x1.toInt.toNat x3) 81 x3.toInt.toNat ((S 81 x3.toInt.toNat) ||| ((Int32.ofInt 1) <<< (x1 &&& 31))))) 81 x3.toInt.toNat) &&& (((Int32.ofInt 1) <<< (x1 &&& 31)) ^^^ (Int32.ofInt (-1)))))))))))))))))))))
noncomputable def D_lodgeF (pr : Int32 → Prop) (φ : Int32 → Int32 → v_Sf → v_Sf) (i : Int32) (a : Int32) (H31 : Int32 → Int32 → Int32 → v_Sf → Prop) (K : v_Sf → Prop) (S : v_Sf) : Prop := ((a < (S 76 12) → (((S 76 4) ≤ i → K (g_X4_keepRow a S)) ∧ (¬ ((S 76 4) ≤ i) → ((i < (Int32.ofInt 8) → H31 i a (Int32.ofInt 0) S) ∧ (¬ (i < (Int32.ofInt 8)) → K (g_X4_keepRow a S)))))) ∧ (¬ (a < (S 76 12)) → K S))
set_option maxRecDepth 4000 in
theorem hd_lodgeF (L : Nat) (xs : Nat → Int32) {R : v_Rf} (pr : Int32 → Prop) (φ : Int32 → Int32 → v_Sf → v_Sf) (hφ : ∀ (n d : Nat) (i a : Int32) (S : v_Sf), pr i → u_P L xs n d m_X4_lodgeFrom 0 (lv_args 0 [.ref 77, .int i, .int a]) [] S R (z_V R (fun S1 => φ i a S = S1))) (i : Int32) (a : Int32) (H31 : Int32 → Int32 → Int32 → v_Sf → Prop) (K : v_Sf → Prop) (k31 : ∀ (x1 : Int32) (x2 : Int32) (x3 : Int32) (S : v_Sf), H31 x1 x2 x3 S → D_lodgeF_31 pr φ H31 K x1 x2 x3 S) : ∀ n, (∀ (d : Nat) (x1 : Int32) (x2 : Int32) (x3 : Int32) (S : v_Sf), H31 x1 x2 x3 S → u_P L xs n d m_X4_lodgeFrom 31 [(0, .ref 77), (1, .int x1), (2, .int x2), (3, .int x3)] [] S R (z_V R K)) ∧ (∀ (d : Nat) (j4 : Int32) (x1 : Int32) (x2 : Int32) (x3 : Int32) (S : v_Sf), H31 x1 x2 x3 S → u_P L xs n d m_X4_lodgeFrom 31 [(0, .ref 77), (1, .int x1), (2, .int x2), (3, .int x3), (4, .int j4)] [] S R (z_V R K)) := by
  intro n
  induction n using Nat.strongRecOn with
  | ind n ih =>
    refine ⟨?_, ?_⟩
    · intro d x1 x2 x3 S hD
      have hD := k31 x1 x2 x3 S hD
      unfold D_lodgeF_31 at hD
      show u_P L xs n d m_X4_lodgeFrom 31 [(0, .ref 77), (1, .int x1), (2, .int x2), (3, .int x3)] [] S R _
      refine u_st1 rfl (fun _ => rfl) (fun m hm => ?_)
      refine u_st rfl (fun _ => rfl) ?_
      show u_P L xs m d m_X4_lodgeFrom 33 [(0, .ref 77), (1, .int x1), (2, .int x2), (3, .int x3)] [.ref 77, .int x3] S R _
      refine u_getE (v := S 76 5) rfl rfl rfl rfl ?_
      show u_P L xs m d m_X4_lodgeFrom 36 [(0, .ref 77), (1, .int x1), (2, .int x2), (3, .int x3)] [.int (S 76 5), .int x3] S R _
      refine u_ic_ge rfl (fun h1 => ?_) (fun h1 => ?_)
      · have hD := hD.1 h1
        show u_P L xs m d m_X4_lodgeFrom 131 [(0, .ref 77), (1, .int x1), (2, .int x2), (3, .int x3)] [] S R _
        exact u_ret rfl rfl ⟨rfl, rfl, hD⟩
      · have hD := hD.2 h1
        show u_P L xs m d m_X4_lodgeFrom 39 [(0, .ref 77), (1, .int x1), (2, .int x2), (3, .int x3)] [] S R _
        refine u_st rfl (fun _ => rfl) ?_
        refine u_st rfl (fun _ => rfl) ?_
        show u_P L xs m d m_X4_lodgeFrom 42 [(0, .ref 77), (1, .int x1), (2, .int x2), (3, .int x3)] [.int (Int32.ofInt 8), .int x3] S R _
        refine u_ic_ge rfl (fun h2 => ?_) (fun h2 => ?_)
        · have hD := hD.1 h2
          show u_P L xs m d m_X4_lodgeFrom 131 [(0, .ref 77), (1, .int x1), (2, .int x2), (3, .int x3)] [] S R _
          exact u_ret rfl rfl ⟨rfl, rfl, hD⟩
        · have hD := hD.2 h2
          show u_P L xs m d m_X4_lodgeFrom 45 [(0, .ref 77), (1, .int x1), (2, .int x2), (3, .int x3)] [] S R _
          refine u_st rfl (fun _ => rfl) ?_
          show u_P L xs m d m_X4_lodgeFrom 46 [(0, .ref 77), (1, .int x1), (2, .int x2), (3, .int x3)] [.ref 77] S R _
          refine u_getr rfl rfl rfl ?_
          refine u_st rfl (fun _ => rfl) ?_
          show u_P L xs m d m_X4_lodgeFrom 50 [(0, .ref 77), (1, .int x1), (2, .int x2), (3, .int x3)] [.int x3, .ref 82] S R _
          refine u_ialdE (v := S 81 x3.toInt.toNat) rfl rfl rfl (fun b31 b32 => ?_)
          have hD := hD b31 b32
          show u_P L xs m d m_X4_lodgeFrom 51 [(0, .ref 77), (1, .int x1), (2, .int x2), (3, .int x3)] [.int (S 81 x3.toInt.toNat)] S R _
          refine u_cs (ac := [.int (S 81 x3.toInt.toNat)]) (rest := []) rfl (by decide) mt_J6_bitCount_0f7a4 (fun _ => rfl) (Nat.le_of_ble_eq_true rfl) (Nat.le_of_ble_eq_true rfl) (fun d' => c_J6_bitCount_0f7a4 L xs m d' (S 81 x3.toInt.toNat) S R) ?_
          rintro _ _ _ ⟨_, rfl, rfl, rfl, rfl⟩
          refine u_st rfl (fun _ => rfl) ?_
          show u_P L xs m d m_X4_lodgeFrom 55 [(0, .ref 77), (1, .int x1), (2, .int x2), (3, .int x3)] [.ref 77, .int (f_J6_bitCount_0f7a4 (S 81 x3.toInt.toNat))] S R _
          refine u_getr rfl rfl rfl ?_
          refine u_st rfl (fun _ => rfl) ?_
          show u_P L xs m d m_X4_lodgeFrom 59 [(0, .ref 77), (1, .int x1), (2, .int x2), (3, .int x3)] [.int x3, .ref 81, .int (f_J6_bitCount_0f7a4 (S 81 x3.toInt.toNat))] S R _
          refine u_ialdE (v := S 80 x3.toInt.toNat) rfl rfl rfl (fun b41 b42 => ?_)
          have hD := hD b41 b42
          show u_P L xs m d m_X4_lodgeFrom 60 [(0, .ref 77), (1, .int x1), (2, .int x2), (3, .int x3)] [.int (S 80 x3.toInt.toNat), .int (f_J6_bitCount_0f7a4 (S 81 x3.toInt.toNat))] S R _
          refine u_ic_ge rfl (fun h5 => ?_) (fun h5 => ?_)
          · have hD := hD.1 h5
            show u_P L xs m d m_X4_lodgeFrom 125 [(0, .ref 77), (1, .int x1), (2, .int x2), (3, .int x3)] [] S R _
            refine u_st rfl (fun _ => rfl) ?_
            refine u_st rfl (fun _ => rfl) ?_
            refine u_lc (b := [(0, .ref 77), (1, .int x1), (2, .int x2), (3, .int (x3 + (Int32.ofInt 1)))]) (show ([3, 0, 1, 2] : List Nat).Nodup by decide) (show ([0, 1, 2, 3] : List Nat).Nodup by decide) (fun i => match i with | 0 => rfl | 1 => rfl | 2 => rfl | 3 => rfl | _ + 4 => rfl) ?_
            exact (ih m hm).1 d x1 x2 (x3 + (Int32.ofInt 1)) S hD
          · have hD := hD.2 h5
            show u_P L xs m d m_X4_lodgeFrom 63 [(0, .ref 77), (1, .int x1), (2, .int x2), (3, .int x3)] [] S R _
            refine u_st rfl (fun _ => rfl) ?_
            show u_P L xs m d m_X4_lodgeFrom 64 [(0, .ref 77), (1, .int x1), (2, .int x2), (3, .int x3)] [.ref 77] S R _
            refine u_getr rfl rfl rfl ?_
            refine u_st rfl (fun _ => rfl) ?_
            show u_P L xs m d m_X4_lodgeFrom 68 [(0, .ref 77), (1, .int x1), (2, .int x2), (3, .int x3)] [.int x3, .ref 82] S R _
            refine u_ialdE (v := S 81 x3.toInt.toNat) rfl rfl rfl (fun b61 b62 => ?_)
            have hD := hD b61 b62
            show u_P L xs m d m_X4_lodgeFrom 69 [(0, .ref 77), (1, .int x1), (2, .int x2), (3, .int x3)] [.int (S 81 x3.toInt.toNat)] S R _
            refine u_st rfl (fun _ => rfl) ?_
            show u_P L xs m d m_X4_lodgeFrom 70 [(0, .ref 77), (1, .int x1), (2, .int x2), (3, .int x3)] [.ref 77, .int (S 81 x3.toInt.toNat)] S R _
            refine u_getr rfl rfl rfl ?_
            refine u_st rfl (fun _ => rfl) ?_
            show u_P L xs m d m_X4_lodgeFrom 74 [(0, .ref 77), (1, .int x1), (2, .int x2), (3, .int x3)] [.int x1, .ref 80, .int (S 81 x3.toInt.toNat)] S R _
            refine u_ialdE (v := S 79 x1.toInt.toNat) rfl rfl rfl (fun b71 b72 => ?_)
            have hD := hD b71 b72
            show u_P L xs m d m_X4_lodgeFrom 75 [(0, .ref 77), (1, .int x1), (2, .int x2), (3, .int x3)] [.int (S 79 x1.toInt.toNat), .int (S 81 x3.toInt.toNat)] S R _
            refine u_st rfl (fun _ => rfl) ?_
            show u_P L xs m d m_X4_lodgeFrom 76 [(0, .ref 77), (1, .int x1), (2, .int x2), (3, .int x3)] [.int ((S 81 x3.toInt.toNat) &&& (S 79 x1.toInt.toNat))] S R _
            refine u_cs (ac := [.int ((S 81 x3.toInt.toNat) &&& (S 79 x1.toInt.toNat))]) (rest := []) rfl (by decide) mt_J6_bitCount_0f7a4 (fun _ => rfl) (Nat.le_of_ble_eq_true rfl) (Nat.le_of_ble_eq_true rfl) (fun d' => c_J6_bitCount_0f7a4 L xs m d' ((S 81 x3.toInt.toNat) &&& (S 79 x1.toInt.toNat)) S R) ?_
            rintro _ _ _ ⟨_, rfl, rfl, rfl, rfl⟩
            refine u_st rfl (fun _ => rfl) ?_
            refine u_st rfl (fun _ => rfl) ?_
            show u_P L xs m d m_X4_lodgeFrom 82 [(4, .int (f_J6_bitCount_0f7a4 ((S 81 x3.toInt.toNat) &&& (S 79 x1.toInt.toNat)))), (0, .ref 77), (1, .int x1), (2, .int x2), (3, .int x3)] [.ref 77] S R _
            refine u_getr rfl rfl rfl ?_
            refine u_st rfl (fun _ => rfl) ?_
            refine u_st rfl (fun _ => rfl) ?_
            show u_P L xs m d m_X4_lodgeFrom 87 [(4, .int (f_J6_bitCount_0f7a4 ((S 81 x3.toInt.toNat) &&& (S 79 x1.toInt.toNat)))), (0, .ref 77), (1, .int x1), (2, .int x2), (3, .int x3)] [.int x3, .int x1, .ref 84] S R _
            refine u_iast rfl rfl (fun b81 b82 => ?_)
            have hD := hD b81 b82
            show u_P L xs m d m_X4_lodgeFrom 88 [(4, .int (f_J6_bitCount_0f7a4 ((S 81 x3.toInt.toNat) &&& (S 79 x1.toInt.toNat)))), (0, .ref 77), (1, .int x1), (2, .int x2), (3, .int x3)] [] (z_s S 83 x1.toInt.toNat x3) R _
            refine u_st rfl (fun _ => rfl) ?_
            show u_P L xs m d m_X4_lodgeFrom 89 [(4, .int (f_J6_bitCount_0f7a4 ((S 81 x3.toInt.toNat) &&& (S 79 x1.toInt.toNat)))), (0, .ref 77), (1, .int x1), (2, .int x2), (3, .int x3)] [.ref 77] (z_s S 83 x1.toInt.toNat x3) R _
            refine u_getr rfl rfl rfl ?_
            refine u_st rfl (fun _ => rfl) ?_
            refine u_st rfl (fun _ => rfl) ?_
            show u_P L xs m d m_X4_lodgeFrom 94 [(4, .int (f_J6_bitCount_0f7a4 ((S 81 x3.toInt.toNat) &&& (S 79 x1.toInt.toNat)))), (0, .ref 77), (1, .int x1), (2, .int x2), (3, .int x3)] [.int x3, .ref 82, .int x3, .ref 82] (z_s S 83 x1.toInt.toNat x3) R _
            refine u_ialdE (v := S 81 x3.toInt.toNat) rfl rfl (z_sn (fun h => absurd h.1 (by decide))) (fun b91 b92 => ?_)
            have hD := hD b91 b92
            show u_P L xs m d m_X4_lodgeFrom 95 [(4, .int (f_J6_bitCount_0f7a4 ((S 81 x3.toInt.toNat) &&& (S 79 x1.toInt.toNat)))), (0, .ref 77), (1, .int x1), (2, .int x2), (3, .int x3)] [.int (S 81 x3.toInt.toNat), .int x3, .ref 82] (z_s S 83 x1.toInt.toNat x3) R _
            refine u_st rfl (fun _ => rfl) ?_
            refine u_st rfl (fun _ => rfl) ?_
            refine u_st rfl (fun _ => rfl) ?_
            refine u_st rfl (fun _ => rfl) ?_
            show u_P L xs m d m_X4_lodgeFrom 99 [(4, .int (f_J6_bitCount_0f7a4 ((S 81 x3.toInt.toNat) &&& (S 79 x1.toInt.toNat)))), (0, .ref 77), (1, .int x1), (2, .int x2), (3, .int x3)] [.int ((S 81 x3.toInt.toNat) ||| ((Int32.ofInt 1) <<< (x1 &&& 31))), .int x3, .ref 82] (z_s S 83 x1.toInt.toNat x3) R _
            refine u_iast rfl rfl (fun b101 b102 => ?_)
            have hD := hD b101 b102
            show u_P L xs m d m_X4_lodgeFrom 100 [(4, .int (f_J6_bitCount_0f7a4 ((S 81 x3.toInt.toNat) &&& (S 79 x1.toInt.toNat)))), (0, .ref 77), (1, .int x1), (2, .int x2), (3, .int x3)] [] (z_s (z_s S 83 x1.toInt.toNat x3) 81 x3.toInt.toNat ((S 81 x3.toInt.toNat) ||| ((Int32.ofInt 1) <<< (x1 &&& 31)))) R _
            refine u_st rfl (fun _ => rfl) ?_
            refine u_st rfl (fun _ => rfl) ?_
            refine u_st rfl (fun _ => rfl) ?_
            refine u_st rfl (fun _ => rfl) ?_
            refine u_st rfl (fun _ => rfl) ?_
            refine u_st rfl (fun _ => rfl) ?_
            refine u_st rfl (fun _ => rfl) ?_
            show u_P L xs m d m_X4_lodgeFrom 108 [(4, .int (f_J6_bitCount_0f7a4 ((S 81 x3.toInt.toNat) &&& (S 79 x1.toInt.toNat)))), (0, .ref 77), (1, .int x1), (2, .int x2), (3, .int x3)] [.int (x2 + (f_J6_bitCount_0f7a4 ((S 81 x3.toInt.toNat) &&& (S 79 x1.toInt.toNat)))), .int (x1 + (Int32.ofInt 1)), .ref 77] (z_s (z_s S 83 x1.toInt.toNat x3) 81 x3.toInt.toNat ((S 81 x3.toInt.toNat) ||| ((Int32.ofInt 1) <<< (x1 &&& 31)))) R _
            refine u_cv (rest := []) rfl (by decide) mt_X4_lodgeFrom rfl rfl rfl rfl (Nat.le_of_ble_eq_true rfl) (Nat.le_of_ble_eq_true rfl) (Nat.le_of_ble_eq_true rfl) (fun d' => hφ m d' (x1 + (Int32.ofInt 1)) (x2 + (f_J6_bitCount_0f7a4 ((S 81 x3.toInt.toNat) &&& (S 79 x1.toInt.toNat)))) (z_s (z_s S 83 x1.toInt.toNat x3) 81 x3.toInt.toNat ((S 81 x3.toInt.toNat) ||| ((Int32.ofInt 1) <<< (x1 &&& 31)))) hD.1) ?_
            rintro _ _ _ ⟨rfl, rfl, rfl⟩
            have hD := hD.2
            show u_P L xs m d m_X4_lodgeFrom 111 [(4, .int (f_J6_bitCount_0f7a4 ((S 81 x3.toInt.toNat) &&& (S 79 x1.toInt.toNat)))), (0, .ref 77), (1, .int x1), (2, .int x2), (3, .int x3)] [] (φ (x1 + (Int32.ofInt 1)) (x2 + (f_J6_bitCount_0f7a4 ((S 81 x3.toInt.toNat) &&& (S 79 x1.toInt.toNat)))) (z_s (z_s S 83 x1.toInt.toNat x3) 81 x3.toInt.toNat ((S 81 x3.toInt.toNat) ||| ((Int32.ofInt 1) <<< (x1 &&& 31))))) R _
            refine u_st rfl (fun _ => rfl) ?_
            show u_P L xs m d m_X4_lodgeFrom 112 [(4, .int (f_J6_bitCount_0f7a4 ((S 81 x3.toInt.toNat) &&& (S 79 x1.toInt.toNat)))), (0, .ref 77), (1, .int x1), (2, .int x2), (3, .int x3)] [.ref 77] (φ (x1 + (Int32.ofInt 1)) (x2 + (f_J6_bitCount_0f7a4 ((S 81 x3.toInt.toNat) &&& (S 79 x1.toInt.toNat)))) (z_s (z_s S 83 x1.toInt.toNat x3) 81 x3.toInt.toNat ((S 81 x3.toInt.toNat) ||| ((Int32.ofInt 1) <<< (x1 &&& 31))))) R _
            refine u_getr rfl rfl rfl ?_
            refine u_st rfl (fun _ => rfl) ?_
            refine u_st rfl (fun _ => rfl) ?_
            show u_P L xs m d m_X4_lodgeFrom 117 [(4, .int (f_J6_bitCount_0f7a4 ((S 81 x3.toInt.toNat) &&& (S 79 x1.toInt.toNat)))), (0, .ref 77), (1, .int x1), (2, .int x2), (3, .int x3)] [.int x3, .ref 82, .int x3, .ref 82] (φ (x1 + (Int32.ofInt 1)) (x2 + (f_J6_bitCount_0f7a4 ((S 81 x3.toInt.toNat) &&& (S 79 x1.toInt.toNat)))) (z_s (z_s S 83 x1.toInt.toNat x3) 81 x3.toInt.toNat ((S 81 x3.toInt.toNat) ||| ((Int32.ofInt 1) <<< (x1 &&& 31))))) R _
            refine u_ialdE (v := (φ (x1 + (Int32.ofInt 1)) (x2 + (f_J6_bitCount_0f7a4 ((S 81 x3.toInt.toNat) &&& (S 79 x1.toInt.toNat)))) (z_s (z_s S 83 x1.toInt.toNat x3) 81 x3.toInt.toNat ((S 81 x3.toInt.toNat) ||| ((Int32.ofInt 1) <<< (x1 &&& 31))))) 81 x3.toInt.toNat) rfl rfl rfl (fun b111 b112 => ?_)
            have hD := hD b111 b112
            show u_P L xs m d m_X4_lodgeFrom 118 [(4, .int (f_J6_bitCount_0f7a4 ((S 81 x3.toInt.toNat) &&& (S 79 x1.toInt.toNat)))), (0, .ref 77), (1, .int x1), (2, .int x2), (3, .int x3)] [.int ((φ (x1 + (Int32.ofInt 1)) (x2 + (f_J6_bitCount_0f7a4 ((S 81 x3.toInt.toNat) &&& (S 79 x1.toInt.toNat)))) (z_s (z_s S 83 x1.toInt.toNat x3) 81 x3.toInt.toNat ((S 81 x3.toInt.toNat) ||| ((Int32.ofInt 1) <<< (x1 &&& 31))))) 81 x3.toInt.toNat), .int x3, .ref 82] (φ (x1 + (Int32.ofInt 1)) (x2 + (f_J6_bitCount_0f7a4 ((S 81 x3.toInt.toNat) &&& (S 79 x1.toInt.toNat)))) (z_s (z_s S 83 x1.toInt.toNat x3) 81 x3.toInt.toNat ((S 81 x3.toInt.toNat) ||| ((Int32.ofInt 1) <<< (x1 &&& 31))))) R _
            refine u_st rfl (fun _ => rfl) ?_
            refine u_st rfl (fun _ => rfl) ?_
            refine u_st rfl (fun _ => rfl) ?_
            refine u_st rfl (fun _ => rfl) ?_
            refine u_st rfl (fun _ => rfl) ?_
            refine u_st rfl (fun _ => rfl) ?_
            show u_P L xs m d m_X4_lodgeFrom 124 [(4, .int (f_J6_bitCount_0f7a4 ((S 81 x3.toInt.toNat) &&& (S 79 x1.toInt.toNat)))), (0, .ref 77), (1, .int x1), (2, .int x2), (3, .int x3)] [.int (((φ (x1 + (Int32.ofInt 1)) (x2 + (f_J6_bitCount_0f7a4 ((S 81 x3.toInt.toNat) &&& (S 79 x1.toInt.toNat)))) (z_s (z_s S 83 x1.toInt.toNat x3) 81 x3.toInt.toNat ((S 81 x3.toInt.toNat) ||| ((Int32.ofInt 1) <<< (x1 &&& 31))))) 81 x3.toInt.toNat) &&& (((Int32.ofInt 1) <<< (x1 &&& 31)) ^^^ (Int32.ofInt (-1)))), .int x3, .ref 82] (φ (x1 + (Int32.ofInt 1)) (x2 + (f_J6_bitCount_0f7a4 ((S 81 x3.toInt.toNat) &&& (S 79 x1.toInt.toNat)))) (z_s (z_s S 83 x1.toInt.toNat x3) 81 x3.toInt.toNat ((S 81 x3.toInt.toNat) ||| ((Int32.ofInt 1) <<< (x1 &&& 31))))) R _
            refine u_iast rfl rfl (fun b121 b122 => ?_)
            have hD := hD b121 b122
            show u_P L xs m d m_X4_lodgeFrom 125 [(4, .int (f_J6_bitCount_0f7a4 ((S 81 x3.toInt.toNat) &&& (S 79 x1.toInt.toNat)))), (0, .ref 77), (1, .int x1), (2, .int x2), (3, .int x3)] [] (z_s (φ (x1 + (Int32.ofInt 1)) (x2 + (f_J6_bitCount_0f7a4 ((S 81 x3.toInt.toNat) &&& (S 79 x1.toInt.toNat)))) (z_s (z_s S 83 x1.toInt.toNat x3) 81 x3.toInt.toNat ((S 81 x3.toInt.toNat) ||| ((Int32.ofInt 1) <<< (x1 &&& 31))))) 81 x3.toInt.toNat (((φ (x1 + (Int32.ofInt 1)) (x2 + (f_J6_bitCount_0f7a4 ((S 81 x3.toInt.toNat) &&& (S 79 x1.toInt.toNat)))) (z_s (z_s S 83 x1.toInt.toNat x3) 81 x3.toInt.toNat ((S 81 x3.toInt.toNat) ||| ((Int32.ofInt 1) <<< (x1 &&& 31))))) 81 x3.toInt.toNat) &&& (((Int32.ofInt 1) <<< (x1 &&& 31)) ^^^ (Int32.ofInt (-1))))) R _
            refine u_st rfl (fun _ => rfl) ?_
            refine u_st rfl (fun _ => rfl) ?_
            refine u_lc (b := [(0, .ref 77), (1, .int x1), (2, .int x2), (3, .int (x3 + (Int32.ofInt 1))), (4, .int (f_J6_bitCount_0f7a4 ((S 81 x3.toInt.toNat) &&& (S 79 x1.toInt.toNat))))]) (show ([3, 4, 0, 1, 2] : List Nat).Nodup by decide) (show ([0, 1, 2, 3, 4] : List Nat).Nodup by decide) (fun i => match i with | 0 => rfl | 1 => rfl | 2 => rfl | 3 => rfl | 4 => rfl | _ + 5 => rfl) ?_
            exact (ih m hm).2 d (f_J6_bitCount_0f7a4 ((S 81 x3.toInt.toNat) &&& (S 79 x1.toInt.toNat))) x1 x2 (x3 + (Int32.ofInt 1)) (z_s (φ (x1 + (Int32.ofInt 1)) (x2 + (f_J6_bitCount_0f7a4 ((S 81 x3.toInt.toNat) &&& (S 79 x1.toInt.toNat)))) (z_s (z_s S 83 x1.toInt.toNat x3) 81 x3.toInt.toNat ((S 81 x3.toInt.toNat) ||| ((Int32.ofInt 1) <<< (x1 &&& 31))))) 81 x3.toInt.toNat (((φ (x1 + (Int32.ofInt 1)) (x2 + (f_J6_bitCount_0f7a4 ((S 81 x3.toInt.toNat) &&& (S 79 x1.toInt.toNat)))) (z_s (z_s S 83 x1.toInt.toNat x3) 81 x3.toInt.toNat ((S 81 x3.toInt.toNat) ||| ((Int32.ofInt 1) <<< (x1 &&& 31))))) 81 x3.toInt.toNat) &&& (((Int32.ofInt 1) <<< (x1 &&& 31)) ^^^ (Int32.ofInt (-1))))) hD
    · intro d j4 x1 x2 x3 S hD
      have hD := k31 x1 x2 x3 S hD
      unfold D_lodgeF_31 at hD
      show u_P L xs n d m_X4_lodgeFrom 31 [(0, .ref 77), (1, .int x1), (2, .int x2), (3, .int x3), (4, .int j4)] [] S R _
      refine u_st1 rfl (fun _ => rfl) (fun m hm => ?_)
      refine u_st rfl (fun _ => rfl) ?_
      show u_P L xs m d m_X4_lodgeFrom 33 [(0, .ref 77), (1, .int x1), (2, .int x2), (3, .int x3), (4, .int j4)] [.ref 77, .int x3] S R _
      refine u_getE (v := S 76 5) rfl rfl rfl rfl ?_
      show u_P L xs m d m_X4_lodgeFrom 36 [(0, .ref 77), (1, .int x1), (2, .int x2), (3, .int x3), (4, .int j4)] [.int (S 76 5), .int x3] S R _
      refine u_ic_ge rfl (fun h1 => ?_) (fun h1 => ?_)
      · have hD := hD.1 h1
        show u_P L xs m d m_X4_lodgeFrom 131 [(0, .ref 77), (1, .int x1), (2, .int x2), (3, .int x3), (4, .int j4)] [] S R _
        exact u_ret rfl rfl ⟨rfl, rfl, hD⟩
      · have hD := hD.2 h1
        show u_P L xs m d m_X4_lodgeFrom 39 [(0, .ref 77), (1, .int x1), (2, .int x2), (3, .int x3), (4, .int j4)] [] S R _
        refine u_st rfl (fun _ => rfl) ?_
        refine u_st rfl (fun _ => rfl) ?_
        show u_P L xs m d m_X4_lodgeFrom 42 [(0, .ref 77), (1, .int x1), (2, .int x2), (3, .int x3), (4, .int j4)] [.int (Int32.ofInt 8), .int x3] S R _
        refine u_ic_ge rfl (fun h2 => ?_) (fun h2 => ?_)
        · have hD := hD.1 h2
          show u_P L xs m d m_X4_lodgeFrom 131 [(0, .ref 77), (1, .int x1), (2, .int x2), (3, .int x3), (4, .int j4)] [] S R _
          exact u_ret rfl rfl ⟨rfl, rfl, hD⟩
        · have hD := hD.2 h2
          show u_P L xs m d m_X4_lodgeFrom 45 [(0, .ref 77), (1, .int x1), (2, .int x2), (3, .int x3), (4, .int j4)] [] S R _
          refine u_st rfl (fun _ => rfl) ?_
          show u_P L xs m d m_X4_lodgeFrom 46 [(0, .ref 77), (1, .int x1), (2, .int x2), (3, .int x3), (4, .int j4)] [.ref 77] S R _
          refine u_getr rfl rfl rfl ?_
          refine u_st rfl (fun _ => rfl) ?_
          show u_P L xs m d m_X4_lodgeFrom 50 [(0, .ref 77), (1, .int x1), (2, .int x2), (3, .int x3), (4, .int j4)] [.int x3, .ref 82] S R _
          refine u_ialdE (v := S 81 x3.toInt.toNat) rfl rfl rfl (fun b31 b32 => ?_)
          have hD := hD b31 b32
          show u_P L xs m d m_X4_lodgeFrom 51 [(0, .ref 77), (1, .int x1), (2, .int x2), (3, .int x3), (4, .int j4)] [.int (S 81 x3.toInt.toNat)] S R _
          refine u_cs (ac := [.int (S 81 x3.toInt.toNat)]) (rest := []) rfl (by decide) mt_J6_bitCount_0f7a4 (fun _ => rfl) (Nat.le_of_ble_eq_true rfl) (Nat.le_of_ble_eq_true rfl) (fun d' => c_J6_bitCount_0f7a4 L xs m d' (S 81 x3.toInt.toNat) S R) ?_
          rintro _ _ _ ⟨_, rfl, rfl, rfl, rfl⟩
          refine u_st rfl (fun _ => rfl) ?_
          show u_P L xs m d m_X4_lodgeFrom 55 [(0, .ref 77), (1, .int x1), (2, .int x2), (3, .int x3), (4, .int j4)] [.ref 77, .int (f_J6_bitCount_0f7a4 (S 81 x3.toInt.toNat))] S R _
          refine u_getr rfl rfl rfl ?_
          refine u_st rfl (fun _ => rfl) ?_
          show u_P L xs m d m_X4_lodgeFrom 59 [(0, .ref 77), (1, .int x1), (2, .int x2), (3, .int x3), (4, .int j4)] [.int x3, .ref 81, .int (f_J6_bitCount_0f7a4 (S 81 x3.toInt.toNat))] S R _
          refine u_ialdE (v := S 80 x3.toInt.toNat) rfl rfl rfl (fun b41 b42 => ?_)
          have hD := hD b41 b42
          show u_P L xs m d m_X4_lodgeFrom 60 [(0, .ref 77), (1, .int x1), (2, .int x2), (3, .int x3), (4, .int j4)] [.int (S 80 x3.toInt.toNat), .int (f_J6_bitCount_0f7a4 (S 81 x3.toInt.toNat))] S R _
          refine u_ic_ge rfl (fun h5 => ?_) (fun h5 => ?_)
          · have hD := hD.1 h5
            show u_P L xs m d m_X4_lodgeFrom 125 [(0, .ref 77), (1, .int x1), (2, .int x2), (3, .int x3), (4, .int j4)] [] S R _
            refine u_st rfl (fun _ => rfl) ?_
            refine u_st rfl (fun _ => rfl) ?_
            refine u_lc (b := [(0, .ref 77), (1, .int x1), (2, .int x2), (3, .int (x3 + (Int32.ofInt 1))), (4, .int j4)]) (show ([3, 0, 1, 2, 4] : List Nat).Nodup by decide) (show ([0, 1, 2, 3, 4] : List Nat).Nodup by decide) (fun i => match i with | 0 => rfl | 1 => rfl | 2 => rfl | 3 => rfl | 4 => rfl | _ + 5 => rfl) ?_
            exact (ih m hm).2 d j4 x1 x2 (x3 + (Int32.ofInt 1)) S hD
          · have hD := hD.2 h5
            show u_P L xs m d m_X4_lodgeFrom 63 [(0, .ref 77), (1, .int x1), (2, .int x2), (3, .int x3), (4, .int j4)] [] S R _
            refine u_st rfl (fun _ => rfl) ?_
            show u_P L xs m d m_X4_lodgeFrom 64 [(0, .ref 77), (1, .int x1), (2, .int x2), (3, .int x3), (4, .int j4)] [.ref 77] S R _
            refine u_getr rfl rfl rfl ?_
            refine u_st rfl (fun _ => rfl) ?_
            show u_P L xs m d m_X4_lodgeFrom 68 [(0, .ref 77), (1, .int x1), (2, .int x2), (3, .int x3), (4, .int j4)] [.int x3, .ref 82] S R _
            refine u_ialdE (v := S 81 x3.toInt.toNat) rfl rfl rfl (fun b61 b62 => ?_)
            have hD := hD b61 b62
            show u_P L xs m d m_X4_lodgeFrom 69 [(0, .ref 77), (1, .int x1), (2, .int x2), (3, .int x3), (4, .int j4)] [.int (S 81 x3.toInt.toNat)] S R _
            refine u_st rfl (fun _ => rfl) ?_
            show u_P L xs m d m_X4_lodgeFrom 70 [(0, .ref 77), (1, .int x1), (2, .int x2), (3, .int x3), (4, .int j4)] [.ref 77, .int (S 81 x3.toInt.toNat)] S R _
            refine u_getr rfl rfl rfl ?_
            refine u_st rfl (fun _ => rfl) ?_
            show u_P L xs m d m_X4_lodgeFrom 74 [(0, .ref 77), (1, .int x1), (2, .int x2), (3, .int x3), (4, .int j4)] [.int x1, .ref 80, .int (S 81 x3.toInt.toNat)] S R _
            refine u_ialdE (v := S 79 x1.toInt.toNat) rfl rfl rfl (fun b71 b72 => ?_)
            have hD := hD b71 b72
            show u_P L xs m d m_X4_lodgeFrom 75 [(0, .ref 77), (1, .int x1), (2, .int x2), (3, .int x3), (4, .int j4)] [.int (S 79 x1.toInt.toNat), .int (S 81 x3.toInt.toNat)] S R _
            refine u_st rfl (fun _ => rfl) ?_
            show u_P L xs m d m_X4_lodgeFrom 76 [(0, .ref 77), (1, .int x1), (2, .int x2), (3, .int x3), (4, .int j4)] [.int ((S 81 x3.toInt.toNat) &&& (S 79 x1.toInt.toNat))] S R _
            refine u_cs (ac := [.int ((S 81 x3.toInt.toNat) &&& (S 79 x1.toInt.toNat))]) (rest := []) rfl (by decide) mt_J6_bitCount_0f7a4 (fun _ => rfl) (Nat.le_of_ble_eq_true rfl) (Nat.le_of_ble_eq_true rfl) (fun d' => c_J6_bitCount_0f7a4 L xs m d' ((S 81 x3.toInt.toNat) &&& (S 79 x1.toInt.toNat)) S R) ?_
            rintro _ _ _ ⟨_, rfl, rfl, rfl, rfl⟩
            refine u_st rfl (fun _ => rfl) ?_
            refine u_st rfl (fun _ => rfl) ?_
            show u_P L xs m d m_X4_lodgeFrom 82 [(4, .int (f_J6_bitCount_0f7a4 ((S 81 x3.toInt.toNat) &&& (S 79 x1.toInt.toNat)))), (0, .ref 77), (1, .int x1), (2, .int x2), (3, .int x3)] [.ref 77] S R _
            refine u_getr rfl rfl rfl ?_
            refine u_st rfl (fun _ => rfl) ?_
            refine u_st rfl (fun _ => rfl) ?_
            show u_P L xs m d m_X4_lodgeFrom 87 [(4, .int (f_J6_bitCount_0f7a4 ((S 81 x3.toInt.toNat) &&& (S 79 x1.toInt.toNat)))), (0, .ref 77), (1, .int x1), (2, .int x2), (3, .int x3)] [.int x3, .int x1, .ref 84] S R _
            refine u_iast rfl rfl (fun b81 b82 => ?_)
            have hD := hD b81 b82
            show u_P L xs m d m_X4_lodgeFrom 88 [(4, .int (f_J6_bitCount_0f7a4 ((S 81 x3.toInt.toNat) &&& (S 79 x1.toInt.toNat)))), (0, .ref 77), (1, .int x1), (2, .int x2), (3, .int x3)] [] (z_s S 83 x1.toInt.toNat x3) R _
            refine u_st rfl (fun _ => rfl) ?_
            show u_P L xs m d m_X4_lodgeFrom 89 [(4, .int (f_J6_bitCount_0f7a4 ((S 81 x3.toInt.toNat) &&& (S 79 x1.toInt.toNat)))), (0, .ref 77), (1, .int x1), (2, .int x2), (3, .int x3)] [.ref 77] (z_s S 83 x1.toInt.toNat x3) R _
            refine u_getr rfl rfl rfl ?_
            refine u_st rfl (fun _ => rfl) ?_
            refine u_st rfl (fun _ => rfl) ?_
            show u_P L xs m d m_X4_lodgeFrom 94 [(4, .int (f_J6_bitCount_0f7a4 ((S 81 x3.toInt.toNat) &&& (S 79 x1.toInt.toNat)))), (0, .ref 77), (1, .int x1), (2, .int x2), (3, .int x3)] [.int x3, .ref 82, .int x3, .ref 82] (z_s S 83 x1.toInt.toNat x3) R _
            refine u_ialdE (v := S 81 x3.toInt.toNat) rfl rfl (z_sn (fun h => absurd h.1 (by decide))) (fun b91 b92 => ?_)
            have hD := hD b91 b92
            show u_P L xs m d m_X4_lodgeFrom 95 [(4, .int (f_J6_bitCount_0f7a4 ((S 81 x3.toInt.toNat) &&& (S 79 x1.toInt.toNat)))), (0, .ref 77), (1, .int x1), (2, .int x2), (3, .int x3)] [.int (S 81 x3.toInt.toNat), .int x3, .ref 82] (z_s S 83 x1.toInt.toNat x3) R _
            refine u_st rfl (fun _ => rfl) ?_
            refine u_st rfl (fun _ => rfl) ?_
            refine u_st rfl (fun _ => rfl) ?_
            refine u_st rfl (fun _ => rfl) ?_
            show u_P L xs m d m_X4_lodgeFrom 99 [(4, .int (f_J6_bitCount_0f7a4 ((S 81 x3.toInt.toNat) &&& (S 79 x1.toInt.toNat)))), (0, .ref 77), (1, .int x1), (2, .int x2), (3, .int x3)] [.int ((S 81 x3.toInt.toNat) ||| ((Int32.ofInt 1) <<< (x1 &&& 31))), .int x3, .ref 82] (z_s S 83 x1.toInt.toNat x3) R _
            refine u_iast rfl rfl (fun b101 b102 => ?_)
            have hD := hD b101 b102
            show u_P L xs m d m_X4_lodgeFrom 100 [(4, .int (f_J6_bitCount_0f7a4 ((S 81 x3.toInt.toNat) &&& (S 79 x1.toInt.toNat)))), (0, .ref 77), (1, .int x1), (2, .int x2), (3, .int x3)] [] (z_s (z_s S 83 x1.toInt.toNat x3) 81 x3.toInt.toNat ((S 81 x3.toInt.toNat) ||| ((Int32.ofInt 1) <<< (x1 &&& 31)))) R _
            refine u_st rfl (fun _ => rfl) ?_
            refine u_st rfl (fun _ => rfl) ?_
            refine u_st rfl (fun _ => rfl) ?_
            refine u_st rfl (fun _ => rfl) ?_
            refine u_st rfl (fun _ => rfl) ?_
            refine u_st rfl (fun _ => rfl) ?_
            refine u_st rfl (fun _ => rfl) ?_
            show u_P L xs m d m_X4_lodgeFrom 108 [(4, .int (f_J6_bitCount_0f7a4 ((S 81 x3.toInt.toNat) &&& (S 79 x1.toInt.toNat)))), (0, .ref 77), (1, .int x1), (2, .int x2), (3, .int x3)] [.int (x2 + (f_J6_bitCount_0f7a4 ((S 81 x3.toInt.toNat) &&& (S 79 x1.toInt.toNat)))), .int (x1 + (Int32.ofInt 1)), .ref 77] (z_s (z_s S 83 x1.toInt.toNat x3) 81 x3.toInt.toNat ((S 81 x3.toInt.toNat) ||| ((Int32.ofInt 1) <<< (x1 &&& 31)))) R _
            refine u_cv (rest := []) rfl (by decide) mt_X4_lodgeFrom rfl rfl rfl rfl (Nat.le_of_ble_eq_true rfl) (Nat.le_of_ble_eq_true rfl) (Nat.le_of_ble_eq_true rfl) (fun d' => hφ m d' (x1 + (Int32.ofInt 1)) (x2 + (f_J6_bitCount_0f7a4 ((S 81 x3.toInt.toNat) &&& (S 79 x1.toInt.toNat)))) (z_s (z_s S 83 x1.toInt.toNat x3) 81 x3.toInt.toNat ((S 81 x3.toInt.toNat) ||| ((Int32.ofInt 1) <<< (x1 &&& 31)))) hD.1) ?_
            rintro _ _ _ ⟨rfl, rfl, rfl⟩
            have hD := hD.2
            show u_P L xs m d m_X4_lodgeFrom 111 [(4, .int (f_J6_bitCount_0f7a4 ((S 81 x3.toInt.toNat) &&& (S 79 x1.toInt.toNat)))), (0, .ref 77), (1, .int x1), (2, .int x2), (3, .int x3)] [] (φ (x1 + (Int32.ofInt 1)) (x2 + (f_J6_bitCount_0f7a4 ((S 81 x3.toInt.toNat) &&& (S 79 x1.toInt.toNat)))) (z_s (z_s S 83 x1.toInt.toNat x3) 81 x3.toInt.toNat ((S 81 x3.toInt.toNat) ||| ((Int32.ofInt 1) <<< (x1 &&& 31))))) R _
            refine u_st rfl (fun _ => rfl) ?_
            show u_P L xs m d m_X4_lodgeFrom 112 [(4, .int (f_J6_bitCount_0f7a4 ((S 81 x3.toInt.toNat) &&& (S 79 x1.toInt.toNat)))), (0, .ref 77), (1, .int x1), (2, .int x2), (3, .int x3)] [.ref 77] (φ (x1 + (Int32.ofInt 1)) (x2 + (f_J6_bitCount_0f7a4 ((S 81 x3.toInt.toNat) &&& (S 79 x1.toInt.toNat)))) (z_s (z_s S 83 x1.toInt.toNat x3) 81 x3.toInt.toNat ((S 81 x3.toInt.toNat) ||| ((Int32.ofInt 1) <<< (x1 &&& 31))))) R _
            refine u_getr rfl rfl rfl ?_
            refine u_st rfl (fun _ => rfl) ?_
            refine u_st rfl (fun _ => rfl) ?_
            show u_P L xs m d m_X4_lodgeFrom 117 [(4, .int (f_J6_bitCount_0f7a4 ((S 81 x3.toInt.toNat) &&& (S 79 x1.toInt.toNat)))), (0, .ref 77), (1, .int x1), (2, .int x2), (3, .int x3)] [.int x3, .ref 82, .int x3, .ref 82] (φ (x1 + (Int32.ofInt 1)) (x2 + (f_J6_bitCount_0f7a4 ((S 81 x3.toInt.toNat) &&& (S 79 x1.toInt.toNat)))) (z_s (z_s S 83 x1.toInt.toNat x3) 81 x3.toInt.toNat ((S 81 x3.toInt.toNat) ||| ((Int32.ofInt 1) <<< (x1 &&& 31))))) R _
            refine u_ialdE (v := (φ (x1 + (Int32.ofInt 1)) (x2 + (f_J6_bitCount_0f7a4 ((S 81 x3.toInt.toNat) &&& (S 79 x1.toInt.toNat)))) (z_s (z_s S 83 x1.toInt.toNat x3) 81 x3.toInt.toNat ((S 81 x3.toInt.toNat) ||| ((Int32.ofInt 1) <<< (x1 &&& 31))))) 81 x3.toInt.toNat) rfl rfl rfl (fun b111 b112 => ?_)
            have hD := hD b111 b112
            show u_P L xs m d m_X4_lodgeFrom 118 [(4, .int (f_J6_bitCount_0f7a4 ((S 81 x3.toInt.toNat) &&& (S 79 x1.toInt.toNat)))), (0, .ref 77), (1, .int x1), (2, .int x2), (3, .int x3)] [.int ((φ (x1 + (Int32.ofInt 1)) (x2 + (f_J6_bitCount_0f7a4 ((S 81 x3.toInt.toNat) &&& (S 79 x1.toInt.toNat)))) (z_s (z_s S 83 x1.toInt.toNat x3) 81 x3.toInt.toNat ((S 81 x3.toInt.toNat) ||| ((Int32.ofInt 1) <<< (x1 &&& 31))))) 81 x3.toInt.toNat), .int x3, .ref 82] (φ (x1 + (Int32.ofInt 1)) (x2 + (f_J6_bitCount_0f7a4 ((S 81 x3.toInt.toNat) &&& (S 79 x1.toInt.toNat)))) (z_s (z_s S 83 x1.toInt.toNat x3) 81 x3.toInt.toNat ((S 81 x3.toInt.toNat) ||| ((Int32.ofInt 1) <<< (x1 &&& 31))))) R _
            refine u_st rfl (fun _ => rfl) ?_
            refine u_st rfl (fun _ => rfl) ?_
            refine u_st rfl (fun _ => rfl) ?_
            refine u_st rfl (fun _ => rfl) ?_
            refine u_st rfl (fun _ => rfl) ?_
            refine u_st rfl (fun _ => rfl) ?_
            show u_P L xs m d m_X4_lodgeFrom 124 [(4, .int (f_J6_bitCount_0f7a4 ((S 81 x3.toInt.toNat) &&& (S 79 x1.toInt.toNat)))), (0, .ref 77), (1, .int x1), (2, .int x2), (3, .int x3)] [.int (((φ (x1 + (Int32.ofInt 1)) (x2 + (f_J6_bitCount_0f7a4 ((S 81 x3.toInt.toNat) &&& (S 79 x1.toInt.toNat)))) (z_s (z_s S 83 x1.toInt.toNat x3) 81 x3.toInt.toNat ((S 81 x3.toInt.toNat) ||| ((Int32.ofInt 1) <<< (x1 &&& 31))))) 81 x3.toInt.toNat) &&& (((Int32.ofInt 1) <<< (x1 &&& 31)) ^^^ (Int32.ofInt (-1)))), .int x3, .ref 82] (φ (x1 + (Int32.ofInt 1)) (x2 + (f_J6_bitCount_0f7a4 ((S 81 x3.toInt.toNat) &&& (S 79 x1.toInt.toNat)))) (z_s (z_s S 83 x1.toInt.toNat x3) 81 x3.toInt.toNat ((S 81 x3.toInt.toNat) ||| ((Int32.ofInt 1) <<< (x1 &&& 31))))) R _
            refine u_iast rfl rfl (fun b121 b122 => ?_)
            have hD := hD b121 b122
            show u_P L xs m d m_X4_lodgeFrom 125 [(4, .int (f_J6_bitCount_0f7a4 ((S 81 x3.toInt.toNat) &&& (S 79 x1.toInt.toNat)))), (0, .ref 77), (1, .int x1), (2, .int x2), (3, .int x3)] [] (z_s (φ (x1 + (Int32.ofInt 1)) (x2 + (f_J6_bitCount_0f7a4 ((S 81 x3.toInt.toNat) &&& (S 79 x1.toInt.toNat)))) (z_s (z_s S 83 x1.toInt.toNat x3) 81 x3.toInt.toNat ((S 81 x3.toInt.toNat) ||| ((Int32.ofInt 1) <<< (x1 &&& 31))))) 81 x3.toInt.toNat (((φ (x1 + (Int32.ofInt 1)) (x2 + (f_J6_bitCount_0f7a4 ((S 81 x3.toInt.toNat) &&& (S 79 x1.toInt.toNat)))) (z_s (z_s S 83 x1.toInt.toNat x3) 81 x3.toInt.toNat ((S 81 x3.toInt.toNat) ||| ((Int32.ofInt 1) <<< (x1 &&& 31))))) 81 x3.toInt.toNat) &&& (((Int32.ofInt 1) <<< (x1 &&& 31)) ^^^ (Int32.ofInt (-1))))) R _
            refine u_st rfl (fun _ => rfl) ?_
            refine u_st rfl (fun _ => rfl) ?_
            refine u_lc (b := [(0, .ref 77), (1, .int x1), (2, .int x2), (3, .int (x3 + (Int32.ofInt 1))), (4, .int (f_J6_bitCount_0f7a4 ((S 81 x3.toInt.toNat) &&& (S 79 x1.toInt.toNat))))]) (show ([3, 4, 0, 1, 2] : List Nat).Nodup by decide) (show ([0, 1, 2, 3, 4] : List Nat).Nodup by decide) (fun i => match i with | 0 => rfl | 1 => rfl | 2 => rfl | 3 => rfl | 4 => rfl | _ + 5 => rfl) ?_
            exact (ih m hm).2 d (f_J6_bitCount_0f7a4 ((S 81 x3.toInt.toNat) &&& (S 79 x1.toInt.toNat))) x1 x2 (x3 + (Int32.ofInt 1)) (z_s (φ (x1 + (Int32.ofInt 1)) (x2 + (f_J6_bitCount_0f7a4 ((S 81 x3.toInt.toNat) &&& (S 79 x1.toInt.toNat)))) (z_s (z_s S 83 x1.toInt.toNat x3) 81 x3.toInt.toNat ((S 81 x3.toInt.toNat) ||| ((Int32.ofInt 1) <<< (x1 &&& 31))))) 81 x3.toInt.toNat (((φ (x1 + (Int32.ofInt 1)) (x2 + (f_J6_bitCount_0f7a4 ((S 81 x3.toInt.toNat) &&& (S 79 x1.toInt.toNat)))) (z_s (z_s S 83 x1.toInt.toNat x3) 81 x3.toInt.toNat ((S 81 x3.toInt.toNat) ||| ((Int32.ofInt 1) <<< (x1 &&& 31))))) 81 x3.toInt.toNat) &&& (((Int32.ofInt 1) <<< (x1 &&& 31)) ^^^ (Int32.ofInt (-1))))) hD
set_option maxRecDepth 4000 in
theorem w_lodgeF (L : Nat) (xs : Nat → Int32) {R : v_Rf} (pr : Int32 → Prop) (φ : Int32 → Int32 → v_Sf → v_Sf) (hφ : ∀ (n d : Nat) (i a : Int32) (S : v_Sf), pr i → u_P L xs n d m_X4_lodgeFrom 0 (lv_args 0 [.ref 77, .int i, .int a]) [] S R (z_V R (fun S1 => φ i a S = S1))) (i : Int32) (a : Int32) (H31 : Int32 → Int32 → Int32 → v_Sf → Prop) (K : v_Sf → Prop) (k31 : ∀ (x1 : Int32) (x2 : Int32) (x3 : Int32) (S : v_Sf), H31 x1 x2 x3 S → D_lodgeF_31 pr φ H31 K x1 x2 x3 S) (n d : Nat) (S : v_Sf) (hD : D_lodgeF pr φ i a H31 K S) : u_P L xs n d m_X4_lodgeFrom 0 (lv_args 0 [.ref 77, .int i, .int a]) [] S R (z_V R K) := by
  unfold D_lodgeF at hD
  show u_P L xs n d m_X4_lodgeFrom 0 [(0, .ref 77), (1, .int i), (2, .int a)] [] S R _
  refine u_st rfl (fun _ => rfl) ?_
  refine u_st rfl (fun _ => rfl) ?_
  show u_P L xs n d m_X4_lodgeFrom 2 [(0, .ref 77), (1, .int i), (2, .int a)] [.ref 77, .int a] S R _
  refine u_getE (v := S 76 12) rfl rfl rfl rfl ?_
  show u_P L xs n d m_X4_lodgeFrom 5 [(0, .ref 77), (1, .int i), (2, .int a)] [.int (S 76 12), .int a] S R _
  refine u_ic_lt rfl (fun h1 => ?_) (fun h1 => ?_)
  · have hD := hD.1 h1
    show u_P L xs n d m_X4_lodgeFrom 9 [(0, .ref 77), (1, .int i), (2, .int a)] [] S R _
    refine u_st rfl (fun _ => rfl) ?_
    refine u_st rfl (fun _ => rfl) ?_
    show u_P L xs n d m_X4_lodgeFrom 11 [(0, .ref 77), (1, .int i), (2, .int a)] [.ref 77, .int i] S R _
    refine u_getE (v := S 76 4) rfl rfl rfl rfl ?_
    show u_P L xs n d m_X4_lodgeFrom 14 [(0, .ref 77), (1, .int i), (2, .int a)] [.int (S 76 4), .int i] S R _
    refine u_ic_ge rfl (fun h2 => ?_) (fun h2 => ?_)
    · have hD := hD.1 h2
      show u_P L xs n d m_X4_lodgeFrom 23 [(0, .ref 77), (1, .int i), (2, .int a)] [] S R _
      refine u_st rfl (fun _ => rfl) ?_
      refine u_st rfl (fun _ => rfl) ?_
      show u_P L xs n d m_X4_lodgeFrom 25 [(0, .ref 77), (1, .int i), (2, .int a)] [.int a, .ref 77] S R _
      refine u_cv (rest := []) rfl (by decide) mt_X4_keepRow rfl rfl rfl rfl (Nat.le_of_ble_eq_true rfl) (Nat.le_of_ble_eq_true rfl) (Nat.le_of_ble_eq_true rfl) (fun d' => c_X4_keepRow L xs n d' a S R) ?_
      rintro _ _ _ ⟨rfl, rfl, rfl⟩
      show u_P L xs n d m_X4_lodgeFrom 28 [(0, .ref 77), (1, .int i), (2, .int a)] [] (g_X4_keepRow a S) R _
      exact u_ret rfl rfl ⟨rfl, rfl, hD⟩
    · have hD := hD.2 h2
      show u_P L xs n d m_X4_lodgeFrom 17 [(0, .ref 77), (1, .int i), (2, .int a)] [] S R _
      refine u_st rfl (fun _ => rfl) ?_
      refine u_st rfl (fun _ => rfl) ?_
      show u_P L xs n d m_X4_lodgeFrom 20 [(0, .ref 77), (1, .int i), (2, .int a)] [.int (Int32.ofInt 8), .int i] S R _
      refine u_ic_lt rfl (fun h3 => ?_) (fun h3 => ?_)
      · have hD := hD.1 h3
        show u_P L xs n d m_X4_lodgeFrom 29 [(0, .ref 77), (1, .int i), (2, .int a)] [] S R _
        refine u_st rfl (fun _ => rfl) ?_
        refine u_st rfl (fun _ => rfl) ?_
        refine u_lc (b := [(0, .ref 77), (1, .int i), (2, .int a), (3, .int (Int32.ofInt 0))]) (show ([3, 0, 1, 2] : List Nat).Nodup by decide) (show ([0, 1, 2, 3] : List Nat).Nodup by decide) (fun i => match i with | 0 => rfl | 1 => rfl | 2 => rfl | 3 => rfl | _ + 4 => rfl) ?_
        exact (hd_lodgeF L xs pr φ hφ i a H31 K k31 n).1 d i a (Int32.ofInt 0) S hD
      · have hD := hD.2 h3
        show u_P L xs n d m_X4_lodgeFrom 23 [(0, .ref 77), (1, .int i), (2, .int a)] [] S R _
        refine u_st rfl (fun _ => rfl) ?_
        refine u_st rfl (fun _ => rfl) ?_
        show u_P L xs n d m_X4_lodgeFrom 25 [(0, .ref 77), (1, .int i), (2, .int a)] [.int a, .ref 77] S R _
        refine u_cv (rest := []) rfl (by decide) mt_X4_keepRow rfl rfl rfl rfl (Nat.le_of_ble_eq_true rfl) (Nat.le_of_ble_eq_true rfl) (Nat.le_of_ble_eq_true rfl) (fun d' => c_X4_keepRow L xs n d' a S R) ?_
        rintro _ _ _ ⟨rfl, rfl, rfl⟩
        show u_P L xs n d m_X4_lodgeFrom 28 [(0, .ref 77), (1, .int i), (2, .int a)] [] (g_X4_keepRow a S) R _
        exact u_ret rfl rfl ⟨rfl, rfl, hD⟩
  · have hD := hD.2 h1
    show u_P L xs n d m_X4_lodgeFrom 8 [(0, .ref 77), (1, .int i), (2, .int a)] [] S R _
    exact u_ret rfl rfl ⟨rfl, rfl, hD⟩
noncomputable def r_lodgeF_31 (φ : Int32 → Int32 → v_Sf → v_Sf) (x1 : Int32) (x2 : Int32) : Nat → Nat → v_Sf → v_Sf
  | 0, k31, S => S
  | r + 1, k31, S => (if (S 76 5) ≤ (z_i k31) then S else (if (Int32.ofInt 8) ≤ (z_i k31) then S else (if (S 80 (z_i k31).toInt.toNat) ≤ (f_J6_bitCount_0f7a4 (S 81 (z_i k31).toInt.toNat)) then r_lodgeF_31 φ x1 x2 r (k31 + 1) S else r_lodgeF_31 φ x1 x2 r (k31 + 1) (z_s (φ (x1 + (Int32.ofInt 1)) (x2 + (f_J6_bitCount_0f7a4 ((S 81 (z_i k31).toInt.toNat) &&& (S 79 x1.toInt.toNat)))) (z_s (z_s S 83 x1.toInt.toNat (z_i k31)) 81 (z_i k31).toInt.toNat ((S 81 (z_i k31).toInt.toNat) ||| ((Int32.ofInt 1) <<< (x1 &&& 31))))) 81 (z_i k31).toInt.toNat (((φ (x1 + (Int32.ofInt 1)) (x2 + (f_J6_bitCount_0f7a4 ((S 81 (z_i k31).toInt.toNat) &&& (S 79 x1.toInt.toNat)))) (z_s (z_s S 83 x1.toInt.toNat (z_i k31)) 81 (z_i k31).toInt.toNat ((S 81 (z_i k31).toInt.toNat) ||| ((Int32.ofInt 1) <<< (x1 &&& 31))))) 81 (z_i k31).toInt.toNat) &&& (((Int32.ofInt 1) <<< (x1 &&& 31)) ^^^ (Int32.ofInt (-1))))))))
theorem r8_lodgeF_31 {φ : Int32 → Int32 → v_Sf → v_Sf} {x1 : Int32} {x2 : Int32} {k : Nat} (h : 8 ≤ k) (h2 : k ≤ 8) {S : v_Sf} : r_lodgeF_31 φ x1 x2 0 k S = r_lodgeF_31 φ x1 x2 (0 + 1) k S := by
  rw [r_lodgeF_31, r_lodgeF_31]
  by_cases q : (S 76 5) ≤ (z_i k)
  · rw [if_pos q]
  · rw [if_neg q, if_pos (z_8le h h2)]
noncomputable def F_lodgeF (φ : Int32 → Int32 → v_Sf → v_Sf) (i : Int32) (a : Int32) (S : v_Sf) : v_Sf := (if a < (S 76 12) then (if (S 76 4) ≤ i then g_X4_keepRow a S else (if i < (Int32.ofInt 8) then r_lodgeF_31 φ i a (8 - 0) 0 S else g_X4_keepRow a S)) else S)
noncomputable def g_lodgeF (φ : Int32 → Int32 → v_Sf → v_Sf) (i : Int32) (a : Int32) (S : v_Sf) : v_Sf := F_lodgeF φ i a S
theorem c_lodgeF (L : Nat) (xs : Nat → Int32) (n d : Nat) {R : v_Rf} (pr : Int32 → Prop) (φ : Int32 → Int32 → v_Sf → v_Sf) (hφ : ∀ (n d : Nat) (i a : Int32) (S : v_Sf), pr i → u_P L xs n d m_X4_lodgeFrom 0 (lv_args 0 [.ref 77, .int i, .int a]) [] S R (z_V R (fun S1 => φ i a S = S1))) (i : Int32) (a : Int32) (hs : (i < (Int32.ofInt 8)) → pr (i + (Int32.ofInt 1))) (S : v_Sf) : u_P L xs n d m_X4_lodgeFrom 0 (lv_args 0 [.ref 77, .int i, .int a]) [] S R (z_V R (fun S1 => g_lodgeF φ i a S = S1)) := by
  refine w_lodgeF L xs pr φ hφ i a (fun y1 y2 y3 T => ∃ (k31 : Nat), k31 ≤ 8 ∧ z_i k31 = y3 ∧ i = y1 ∧ a = y2 ∧ (i < (Int32.ofInt 8)) ∧ r_lodgeF_31 φ i a (8 - k31) k31 T = F_lodgeF φ i a S) (fun S1 => g_lodgeF φ i a S = S1) ?_ n d S ?_
  · rintro _ _ _ S1 ⟨k31, hkk, rfl, rfl, rfl, hx0, e⟩
    unfold D_lodgeF_31
    rcases Nat.lt_or_ge k31 (8) with hk | hk
    · rw [show 8 - k31 = (8 - (k31 + 1)) + 1 by omega, r_lodgeF_31] at e
      refine ⟨fun q1 => ?_, fun q1 => ?_⟩
      · rw [if_pos q1] at e
        exact e.symm
      · refine ⟨fun q2 => ?_, fun q2 => ?_⟩
        · rw [if_neg q1, if_pos q2] at e
          exact e.symm
        · intro _ _
          intro _ _
          refine ⟨fun q3 => ?_, fun q3 => ?_⟩
          · rw [if_neg q1, if_neg q2, if_pos q3] at e
            exact ⟨(k31 + 1), by omega, (z_i1 k31).symm, rfl, rfl, by assumption, e⟩
          · intro _ _
            intro _ _
            intro _ _
            intro _ _
            intro _ _
            refine ⟨hs (by assumption), ?_⟩
            intro _ _
            intro _ _
            rw [if_neg q1, if_neg q2, if_neg q3] at e
            exact ⟨(k31 + 1), by omega, (z_i1 k31).symm, rfl, rfl, by assumption, e⟩
    · rw [show 8 - k31 = 0 by omega, r8_lodgeF_31 hk hkk, r_lodgeF_31] at e
      refine ⟨fun q1 => ?_, fun q1 => ?_⟩
      · rw [if_pos q1] at e
        exact e.symm
      · refine ⟨fun q2 => ?_, fun q2 => ?_⟩
        · rw [if_neg q1, if_pos q2] at e
          exact e.symm
        · exact absurd (z_8le hk hkk) q2
  · unfold D_lodgeF
    refine ⟨fun q4 => ?_, fun q4 => ?_⟩
    · refine ⟨fun q5 => ?_, fun q5 => ?_⟩
      · have e : g_X4_keepRow a S = F_lodgeF φ i a S := by rw [F_lodgeF, if_pos q4, if_pos q5]
        exact e.symm
      · refine ⟨fun q6 => ?_, fun q6 => ?_⟩
        · have e : r_lodgeF_31 φ i a (8 - 0) 0 S = F_lodgeF φ i a S := by rw [F_lodgeF, if_pos q4, if_neg q5, if_pos q6]
          exact ⟨0, by omega, rfl, rfl, rfl, by assumption, e⟩
        · have e : g_X4_keepRow a S = F_lodgeF φ i a S := by rw [F_lodgeF, if_pos q4, if_neg q5, if_neg q6]
          exact e.symm
    · have e : S = F_lodgeF φ i a S := by rw [F_lodgeF, if_neg q4]
      exact e.symm
noncomputable def g_lodgeN : Nat → Int32 → Int32 → v_Sf → v_Sf
  | 0 => g_lodgeF (fun _ _ S => S)
  | f + 1 => g_lodgeF (g_lodgeN f)
theorem c_lodgeN (L : Nat) (xs : Nat → Int32) (R : v_Rf) : ∀ (f n d : Nat) (i a : Int32) (S : v_Sf), 8 ≤ i.toInt + f → u_P L xs n d m_X4_lodgeFrom 0 (lv_args 0 [.ref 77, .int i, .int a]) [] S R (z_V R (fun S1 => g_lodgeN f i a S = S1)) := by
  intro f
  induction f with
  | zero =>
    intro n d i a S h
    exact c_lodgeF L xs n d (fun _ => False) (fun _ _ S => S) (fun _ _ _ _ _ h => h.elim) i a (fun q => by have := z_dp (B := 8) (by decide) q; omega) S
  | succ f ih =>
    intro n d i a S h
    exact c_lodgeF L xs n d (fun i => 8 ≤ i.toInt + f) (g_lodgeN f) (fun n d i a S h => ih n d i a S h) i a (fun q => by have := z_dp (B := 8) (by decide) q; show 8 ≤ (i + Int32.ofInt 1).toInt + f; omega) S
noncomputable def g_lodge (i a : Int32) (S : v_Sf) : v_Sf := g_lodgeN 8 i a S
theorem c_lodge (L : Nat) (xs : Nat → Int32) (n d : Nat) (i a : Int32) (h : 0 ≤ i.toInt) (S : v_Sf) (R : v_Rf) : u_P L xs n d m_X4_lodgeFrom 0 (lv_args 0 [.ref 77, .int i, .int a]) [] S R (z_V R (fun S1 => g_lodge i a S = S1)) := c_lodgeN L xs R 8 n d i a S (by omega)
noncomputable abbrev m_X4_staffFrom : g_M := (g_cn 4, yX4_staffFrom, cX4_staffFrom, 5, none, g_look2 ttX4_staffFrom)
set_option maxRecDepth 20000 in
theorem mt_X4_staffFrom : g_mt 54 = some m_X4_staffFrom := rfl
noncomputable def D_staffF_32 (pr : Int32 → Prop) (φ : Int32 → Int32 → Int32 → v_Sf → v_Sf) (H32 : Int32 → Int32 → Int32 → Int32 → v_Sf → Prop) (K : v_Sf → Prop) (x1 : Int32) (x2 : Int32) (x3 : Int32) (x4 : Int32) (S : v_Sf) : Prop := (((S 76 5) ≤ x4 → K S) ∧ (¬ ((S 76 5) ≤ x4) → (((Int32.ofInt 8) ≤ x4 → K S) ∧ (¬ ((Int32.ofInt 8) ≤ x4) → (((¬ (f_X11_isIn x2 x4) = 0) → H32 x1 x2 x3 (x4 + (Int32.ofInt 1)) S) ∧ (¬ (¬ (f_X11_isIn x2 x4) = 0) → (0 ≤ x1.toInt → x1.toInt < 8 → (0 ≤ ((x1 * (Int32.ofInt 8)) + x4).toInt → ((x1 * (Int32.ofInt 8)) + x4).toInt < 64 → (pr (x1 + (Int32.ofInt 1)) ∧ H32 x1 x2 x3 (x4 + (Int32.ofInt 1)) (φ (x1 + (Int32.ofInt 1)) (x2 ||| ((Int32.ofInt 1) <<< (x4 &&& 31))) (x3 + (S 82 (((x1 * (Int32.ofInt 8)) + x4).toInt.toNat))) (z_s S 83 x1.toInt.toNat x4)))))))))))
noncomputable def D_staffF (pr : Int32 → Prop) (φ : Int32 → Int32 → Int32 → v_Sf → v_Sf) (i : Int32) (a : Int32) (b : Int32) (H32 : Int32 → Int32 → Int32 → Int32 → v_Sf → Prop) (K : v_Sf → Prop) (S : v_Sf) : Prop := ((b < (S 76 12) → (((S 76 4) ≤ i → K (g_X4_keepRow b S)) ∧ (¬ ((S 76 4) ≤ i) → ((i < (Int32.ofInt 8) → H32 i a b (Int32.ofInt 0) S) ∧ (¬ (i < (Int32.ofInt 8)) → K (g_X4_keepRow b S)))))) ∧ (¬ (b < (S 76 12)) → K S))
set_option maxRecDepth 4000 in
theorem hd_staffF (L : Nat) (xs : Nat → Int32) {R : v_Rf} (pr : Int32 → Prop) (φ : Int32 → Int32 → Int32 → v_Sf → v_Sf) (hφ : ∀ (n d : Nat) (i a b : Int32) (S : v_Sf), pr i → u_P L xs n d m_X4_staffFrom 0 (lv_args 0 [.ref 77, .int i, .int a, .int b]) [] S R (z_V R (fun S1 => φ i a b S = S1))) (i : Int32) (a : Int32) (b : Int32) (H32 : Int32 → Int32 → Int32 → Int32 → v_Sf → Prop) (K : v_Sf → Prop) (k32 : ∀ (x1 : Int32) (x2 : Int32) (x3 : Int32) (x4 : Int32) (S : v_Sf), H32 x1 x2 x3 x4 S → D_staffF_32 pr φ H32 K x1 x2 x3 x4 S) : ∀ n, (∀ (d : Nat) (x1 : Int32) (x2 : Int32) (x3 : Int32) (x4 : Int32) (S : v_Sf), H32 x1 x2 x3 x4 S → u_P L xs n d m_X4_staffFrom 32 [(0, .ref 77), (1, .int x1), (2, .int x2), (3, .int x3), (4, .int x4)] [] S R (z_V R K)) := by
  intro n
  induction n using Nat.strongRecOn with
  | ind n ih =>
    intro d x1 x2 x3 x4 S hD
    have hD := k32 x1 x2 x3 x4 S hD
    unfold D_staffF_32 at hD
    show u_P L xs n d m_X4_staffFrom 32 [(0, .ref 77), (1, .int x1), (2, .int x2), (3, .int x3), (4, .int x4)] [] S R _
    refine u_st1 rfl (fun _ => rfl) (fun m hm => ?_)
    refine u_st rfl (fun _ => rfl) ?_
    show u_P L xs m d m_X4_staffFrom 35 [(0, .ref 77), (1, .int x1), (2, .int x2), (3, .int x3), (4, .int x4)] [.ref 77, .int x4] S R _
    refine u_getE (v := S 76 5) rfl rfl rfl rfl ?_
    show u_P L xs m d m_X4_staffFrom 38 [(0, .ref 77), (1, .int x1), (2, .int x2), (3, .int x3), (4, .int x4)] [.int (S 76 5), .int x4] S R _
    refine u_ic_ge rfl (fun h1 => ?_) (fun h1 => ?_)
    · have hD := hD.1 h1
      show u_P L xs m d m_X4_staffFrom 98 [(0, .ref 77), (1, .int x1), (2, .int x2), (3, .int x3), (4, .int x4)] [] S R _
      exact u_ret rfl rfl ⟨rfl, rfl, hD⟩
    · have hD := hD.2 h1
      show u_P L xs m d m_X4_staffFrom 41 [(0, .ref 77), (1, .int x1), (2, .int x2), (3, .int x3), (4, .int x4)] [] S R _
      refine u_st rfl (fun _ => rfl) ?_
      refine u_st rfl (fun _ => rfl) ?_
      show u_P L xs m d m_X4_staffFrom 45 [(0, .ref 77), (1, .int x1), (2, .int x2), (3, .int x3), (4, .int x4)] [.int (Int32.ofInt 8), .int x4] S R _
      refine u_ic_ge rfl (fun h2 => ?_) (fun h2 => ?_)
      · have hD := hD.1 h2
        show u_P L xs m d m_X4_staffFrom 98 [(0, .ref 77), (1, .int x1), (2, .int x2), (3, .int x3), (4, .int x4)] [] S R _
        exact u_ret rfl rfl ⟨rfl, rfl, hD⟩
      · have hD := hD.2 h2
        show u_P L xs m d m_X4_staffFrom 48 [(0, .ref 77), (1, .int x1), (2, .int x2), (3, .int x3), (4, .int x4)] [] S R _
        refine u_st rfl (fun _ => rfl) ?_
        refine u_st rfl (fun _ => rfl) ?_
        show u_P L xs m d m_X4_staffFrom 51 [(0, .ref 77), (1, .int x1), (2, .int x2), (3, .int x3), (4, .int x4)] [.int x4, .int x2] S R _
        refine u_cs (ac := [.int x2, .int x4]) (rest := []) rfl (by decide) mt_X11_isIn (fun _ => rfl) (Nat.le_of_ble_eq_true rfl) (Nat.le_of_ble_eq_true rfl) (fun d' => c_X11_isIn L xs m d' x2 x4 S R) ?_
        rintro _ _ _ ⟨_, rfl, rfl, rfl, rfl⟩
        show u_P L xs m d m_X4_staffFrom 54 [(0, .ref 77), (1, .int x1), (2, .int x2), (3, .int x3), (4, .int x4)] [.int (f_X11_isIn x2 x4)] S R _
        refine u_if_ne rfl (fun h3 => ?_) (fun h3 => ?_)
        · have hD := hD.1 h3
          show u_P L xs m d m_X4_staffFrom 92 [(0, .ref 77), (1, .int x1), (2, .int x2), (3, .int x3), (4, .int x4)] [] S R _
          refine u_st rfl (fun _ => rfl) ?_
          refine u_st rfl (fun _ => rfl) ?_
          refine u_lc (b := [(0, .ref 77), (1, .int x1), (2, .int x2), (3, .int x3), (4, .int (x4 + (Int32.ofInt 1)))]) (show ([4, 0, 1, 2, 3] : List Nat).Nodup by decide) (show ([0, 1, 2, 3, 4] : List Nat).Nodup by decide) (fun i => match i with | 0 => rfl | 1 => rfl | 2 => rfl | 3 => rfl | 4 => rfl | _ + 5 => rfl) ?_
          exact (ih m hm) d x1 x2 x3 (x4 + (Int32.ofInt 1)) S hD
        · have hD := hD.2 h3
          show u_P L xs m d m_X4_staffFrom 57 [(0, .ref 77), (1, .int x1), (2, .int x2), (3, .int x3), (4, .int x4)] [] S R _
          refine u_st rfl (fun _ => rfl) ?_
          show u_P L xs m d m_X4_staffFrom 58 [(0, .ref 77), (1, .int x1), (2, .int x2), (3, .int x3), (4, .int x4)] [.ref 77] S R _
          refine u_getr rfl rfl rfl ?_
          refine u_st rfl (fun _ => rfl) ?_
          refine u_st rfl (fun _ => rfl) ?_
          show u_P L xs m d m_X4_staffFrom 64 [(0, .ref 77), (1, .int x1), (2, .int x2), (3, .int x3), (4, .int x4)] [.int x4, .int x1, .ref 84] S R _
          refine u_iast rfl rfl (fun b41 b42 => ?_)
          have hD := hD b41 b42
          show u_P L xs m d m_X4_staffFrom 65 [(0, .ref 77), (1, .int x1), (2, .int x2), (3, .int x3), (4, .int x4)] [] (z_s S 83 x1.toInt.toNat x4) R _
          refine u_st rfl (fun _ => rfl) ?_
          refine u_st rfl (fun _ => rfl) ?_
          refine u_st rfl (fun _ => rfl) ?_
          refine u_st rfl (fun _ => rfl) ?_
          refine u_st rfl (fun _ => rfl) ?_
          refine u_st rfl (fun _ => rfl) ?_
          refine u_st rfl (fun _ => rfl) ?_
          refine u_st rfl (fun _ => rfl) ?_
          refine u_st rfl (fun _ => rfl) ?_
          refine u_st rfl (fun _ => rfl) ?_
          refine u_st rfl (fun _ => rfl) ?_
          show u_P L xs m d m_X4_staffFrom 77 [(0, .ref 77), (1, .int x1), (2, .int x2), (3, .int x3), (4, .int x4)] [.ref 77, .int x3, .int (x2 ||| ((Int32.ofInt 1) <<< (x4 &&& 31))), .int (x1 + (Int32.ofInt 1)), .ref 77] (z_s S 83 x1.toInt.toNat x4) R _
          refine u_getr rfl rfl rfl ?_
          refine u_st rfl (fun _ => rfl) ?_
          refine u_st rfl (fun _ => rfl) ?_
          refine u_st rfl (fun _ => rfl) ?_
          refine u_st rfl (fun _ => rfl) ?_
          refine u_st rfl (fun _ => rfl) ?_
          show u_P L xs m d m_X4_staffFrom 87 [(0, .ref 77), (1, .int x1), (2, .int x2), (3, .int x3), (4, .int x4)] [.int ((x1 * (Int32.ofInt 8)) + x4), .ref 83, .int x3, .int (x2 ||| ((Int32.ofInt 1) <<< (x4 &&& 31))), .int (x1 + (Int32.ofInt 1)), .ref 77] (z_s S 83 x1.toInt.toNat x4) R _
          refine u_ialdE (v := S 82 (((x1 * (Int32.ofInt 8)) + x4).toInt.toNat)) rfl rfl (z_sn (fun h => absurd h.1 (by decide))) (fun b51 b52 => ?_)
          have hD := hD b51 b52
          show u_P L xs m d m_X4_staffFrom 88 [(0, .ref 77), (1, .int x1), (2, .int x2), (3, .int x3), (4, .int x4)] [.int (S 82 (((x1 * (Int32.ofInt 8)) + x4).toInt.toNat)), .int x3, .int (x2 ||| ((Int32.ofInt 1) <<< (x4 &&& 31))), .int (x1 + (Int32.ofInt 1)), .ref 77] (z_s S 83 x1.toInt.toNat x4) R _
          refine u_st rfl (fun _ => rfl) ?_
          show u_P L xs m d m_X4_staffFrom 89 [(0, .ref 77), (1, .int x1), (2, .int x2), (3, .int x3), (4, .int x4)] [.int (x3 + (S 82 (((x1 * (Int32.ofInt 8)) + x4).toInt.toNat))), .int (x2 ||| ((Int32.ofInt 1) <<< (x4 &&& 31))), .int (x1 + (Int32.ofInt 1)), .ref 77] (z_s S 83 x1.toInt.toNat x4) R _
          refine u_cv (rest := []) rfl (by decide) mt_X4_staffFrom rfl rfl rfl rfl (Nat.le_of_ble_eq_true rfl) (Nat.le_of_ble_eq_true rfl) (Nat.le_of_ble_eq_true rfl) (fun d' => hφ m d' (x1 + (Int32.ofInt 1)) (x2 ||| ((Int32.ofInt 1) <<< (x4 &&& 31))) (x3 + (S 82 (((x1 * (Int32.ofInt 8)) + x4).toInt.toNat))) (z_s S 83 x1.toInt.toNat x4) hD.1) ?_
          rintro _ _ _ ⟨rfl, rfl, rfl⟩
          have hD := hD.2
          show u_P L xs m d m_X4_staffFrom 92 [(0, .ref 77), (1, .int x1), (2, .int x2), (3, .int x3), (4, .int x4)] [] (φ (x1 + (Int32.ofInt 1)) (x2 ||| ((Int32.ofInt 1) <<< (x4 &&& 31))) (x3 + (S 82 (((x1 * (Int32.ofInt 8)) + x4).toInt.toNat))) (z_s S 83 x1.toInt.toNat x4)) R _
          refine u_st rfl (fun _ => rfl) ?_
          refine u_st rfl (fun _ => rfl) ?_
          refine u_lc (b := [(0, .ref 77), (1, .int x1), (2, .int x2), (3, .int x3), (4, .int (x4 + (Int32.ofInt 1)))]) (show ([4, 0, 1, 2, 3] : List Nat).Nodup by decide) (show ([0, 1, 2, 3, 4] : List Nat).Nodup by decide) (fun i => match i with | 0 => rfl | 1 => rfl | 2 => rfl | 3 => rfl | 4 => rfl | _ + 5 => rfl) ?_
          exact (ih m hm) d x1 x2 x3 (x4 + (Int32.ofInt 1)) (φ (x1 + (Int32.ofInt 1)) (x2 ||| ((Int32.ofInt 1) <<< (x4 &&& 31))) (x3 + (S 82 (((x1 * (Int32.ofInt 8)) + x4).toInt.toNat))) (z_s S 83 x1.toInt.toNat x4)) hD
set_option maxRecDepth 4000 in
theorem w_staffF (L : Nat) (xs : Nat → Int32) {R : v_Rf} (pr : Int32 → Prop) (φ : Int32 → Int32 → Int32 → v_Sf → v_Sf) (hφ : ∀ (n d : Nat) (i a b : Int32) (S : v_Sf), pr i → u_P L xs n d m_X4_staffFrom 0 (lv_args 0 [.ref 77, .int i, .int a, .int b]) [] S R (z_V R (fun S1 => φ i a b S = S1))) (i : Int32) (a : Int32) (b : Int32) (H32 : Int32 → Int32 → Int32 → Int32 → v_Sf → Prop) (K : v_Sf → Prop) (k32 : ∀ (x1 : Int32) (x2 : Int32) (x3 : Int32) (x4 : Int32) (S : v_Sf), H32 x1 x2 x3 x4 S → D_staffF_32 pr φ H32 K x1 x2 x3 x4 S) (n d : Nat) (S : v_Sf) (hD : D_staffF pr φ i a b H32 K S) : u_P L xs n d m_X4_staffFrom 0 (lv_args 0 [.ref 77, .int i, .int a, .int b]) [] S R (z_V R K) := by
  unfold D_staffF at hD
  show u_P L xs n d m_X4_staffFrom 0 [(0, .ref 77), (1, .int i), (2, .int a), (3, .int b)] [] S R _
  refine u_st rfl (fun _ => rfl) ?_
  refine u_st rfl (fun _ => rfl) ?_
  show u_P L xs n d m_X4_staffFrom 2 [(0, .ref 77), (1, .int i), (2, .int a), (3, .int b)] [.ref 77, .int b] S R _
  refine u_getE (v := S 76 12) rfl rfl rfl rfl ?_
  show u_P L xs n d m_X4_staffFrom 5 [(0, .ref 77), (1, .int i), (2, .int a), (3, .int b)] [.int (S 76 12), .int b] S R _
  refine u_ic_lt rfl (fun h1 => ?_) (fun h1 => ?_)
  · have hD := hD.1 h1
    show u_P L xs n d m_X4_staffFrom 9 [(0, .ref 77), (1, .int i), (2, .int a), (3, .int b)] [] S R _
    refine u_st rfl (fun _ => rfl) ?_
    refine u_st rfl (fun _ => rfl) ?_
    show u_P L xs n d m_X4_staffFrom 11 [(0, .ref 77), (1, .int i), (2, .int a), (3, .int b)] [.ref 77, .int i] S R _
    refine u_getE (v := S 76 4) rfl rfl rfl rfl ?_
    show u_P L xs n d m_X4_staffFrom 14 [(0, .ref 77), (1, .int i), (2, .int a), (3, .int b)] [.int (S 76 4), .int i] S R _
    refine u_ic_ge rfl (fun h2 => ?_) (fun h2 => ?_)
    · have hD := hD.1 h2
      show u_P L xs n d m_X4_staffFrom 23 [(0, .ref 77), (1, .int i), (2, .int a), (3, .int b)] [] S R _
      refine u_st rfl (fun _ => rfl) ?_
      refine u_st rfl (fun _ => rfl) ?_
      show u_P L xs n d m_X4_staffFrom 25 [(0, .ref 77), (1, .int i), (2, .int a), (3, .int b)] [.int b, .ref 77] S R _
      refine u_cv (rest := []) rfl (by decide) mt_X4_keepRow rfl rfl rfl rfl (Nat.le_of_ble_eq_true rfl) (Nat.le_of_ble_eq_true rfl) (Nat.le_of_ble_eq_true rfl) (fun d' => c_X4_keepRow L xs n d' b S R) ?_
      rintro _ _ _ ⟨rfl, rfl, rfl⟩
      show u_P L xs n d m_X4_staffFrom 28 [(0, .ref 77), (1, .int i), (2, .int a), (3, .int b)] [] (g_X4_keepRow b S) R _
      exact u_ret rfl rfl ⟨rfl, rfl, hD⟩
    · have hD := hD.2 h2
      show u_P L xs n d m_X4_staffFrom 17 [(0, .ref 77), (1, .int i), (2, .int a), (3, .int b)] [] S R _
      refine u_st rfl (fun _ => rfl) ?_
      refine u_st rfl (fun _ => rfl) ?_
      show u_P L xs n d m_X4_staffFrom 20 [(0, .ref 77), (1, .int i), (2, .int a), (3, .int b)] [.int (Int32.ofInt 8), .int i] S R _
      refine u_ic_lt rfl (fun h3 => ?_) (fun h3 => ?_)
      · have hD := hD.1 h3
        show u_P L xs n d m_X4_staffFrom 29 [(0, .ref 77), (1, .int i), (2, .int a), (3, .int b)] [] S R _
        refine u_st rfl (fun _ => rfl) ?_
        refine u_st rfl (fun _ => rfl) ?_
        refine u_lc (b := [(0, .ref 77), (1, .int i), (2, .int a), (3, .int b), (4, .int (Int32.ofInt 0))]) (show ([4, 0, 1, 2, 3] : List Nat).Nodup by decide) (show ([0, 1, 2, 3, 4] : List Nat).Nodup by decide) (fun i => match i with | 0 => rfl | 1 => rfl | 2 => rfl | 3 => rfl | 4 => rfl | _ + 5 => rfl) ?_
        exact (hd_staffF L xs pr φ hφ i a b H32 K k32 n) d i a b (Int32.ofInt 0) S hD
      · have hD := hD.2 h3
        show u_P L xs n d m_X4_staffFrom 23 [(0, .ref 77), (1, .int i), (2, .int a), (3, .int b)] [] S R _
        refine u_st rfl (fun _ => rfl) ?_
        refine u_st rfl (fun _ => rfl) ?_
        show u_P L xs n d m_X4_staffFrom 25 [(0, .ref 77), (1, .int i), (2, .int a), (3, .int b)] [.int b, .ref 77] S R _
        refine u_cv (rest := []) rfl (by decide) mt_X4_keepRow rfl rfl rfl rfl (Nat.le_of_ble_eq_true rfl) (Nat.le_of_ble_eq_true rfl) (Nat.le_of_ble_eq_true rfl) (fun d' => c_X4_keepRow L xs n d' b S R) ?_
        rintro _ _ _ ⟨rfl, rfl, rfl⟩
        show u_P L xs n d m_X4_staffFrom 28 [(0, .ref 77), (1, .int i), (2, .int a), (3, .int b)] [] (g_X4_keepRow b S) R _
        exact u_ret rfl rfl ⟨rfl, rfl, hD⟩
  · have hD := hD.2 h1
    show u_P L xs n d m_X4_staffFrom 8 [(0, .ref 77), (1, .int i), (2, .int a), (3, .int b)] [] S R _
    exact u_ret rfl rfl ⟨rfl, rfl, hD⟩
noncomputable def r_staffF_32 (φ : Int32 → Int32 → Int32 → v_Sf → v_Sf) (x1 : Int32) (x2 : Int32) (x3 : Int32) : Nat → Nat → v_Sf → v_Sf
  | 0, k32, S => S
  | r + 1, k32, S => (if (S 76 5) ≤ (z_i k32) then S else (if (Int32.ofInt 8) ≤ (z_i k32) then S else (if ¬ (f_X11_isIn x2 (z_i k32)) = 0 then r_staffF_32 φ x1 x2 x3 r (k32 + 1) S else r_staffF_32 φ x1 x2 x3 r (k32 + 1) (φ (x1 + (Int32.ofInt 1)) (x2 ||| ((Int32.ofInt 1) <<< ((z_i k32) &&& 31))) (x3 + (S 82 (((x1 * (Int32.ofInt 8)) + (z_i k32)).toInt.toNat))) (z_s S 83 x1.toInt.toNat (z_i k32))))))
theorem r8_staffF_32 {φ : Int32 → Int32 → Int32 → v_Sf → v_Sf} {x1 : Int32} {x2 : Int32} {x3 : Int32} {k : Nat} (h : 8 ≤ k) (h2 : k ≤ 8) {S : v_Sf} : r_staffF_32 φ x1 x2 x3 0 k S = r_staffF_32 φ x1 x2 x3 (0 + 1) k S := by
  rw [r_staffF_32, r_staffF_32]
  by_cases q : (S 76 5) ≤ (z_i k)
  · rw [if_pos q]
  · rw [if_neg q, if_pos (z_8le h h2)]
noncomputable def F_staffF (φ : Int32 → Int32 → Int32 → v_Sf → v_Sf) (i : Int32) (a : Int32) (b : Int32) (S : v_Sf) : v_Sf := (if b < (S 76 12) then (if (S 76 4) ≤ i then g_X4_keepRow b S else (if i < (Int32.ofInt 8) then r_staffF_32 φ i a b (8 - 0) 0 S else g_X4_keepRow b S)) else S)
noncomputable def g_staffF (φ : Int32 → Int32 → Int32 → v_Sf → v_Sf) (i : Int32) (a : Int32) (b : Int32) (S : v_Sf) : v_Sf := F_staffF φ i a b S
theorem c_staffF (L : Nat) (xs : Nat → Int32) (n d : Nat) {R : v_Rf} (pr : Int32 → Prop) (φ : Int32 → Int32 → Int32 → v_Sf → v_Sf) (hφ : ∀ (n d : Nat) (i a b : Int32) (S : v_Sf), pr i → u_P L xs n d m_X4_staffFrom 0 (lv_args 0 [.ref 77, .int i, .int a, .int b]) [] S R (z_V R (fun S1 => φ i a b S = S1))) (i : Int32) (a : Int32) (b : Int32) (hs : (i < (Int32.ofInt 8)) → pr (i + (Int32.ofInt 1))) (S : v_Sf) : u_P L xs n d m_X4_staffFrom 0 (lv_args 0 [.ref 77, .int i, .int a, .int b]) [] S R (z_V R (fun S1 => g_staffF φ i a b S = S1)) := by
  refine w_staffF L xs pr φ hφ i a b (fun y1 y2 y3 y4 T => ∃ (k32 : Nat), k32 ≤ 8 ∧ z_i k32 = y4 ∧ i = y1 ∧ a = y2 ∧ b = y3 ∧ (i < (Int32.ofInt 8)) ∧ r_staffF_32 φ i a b (8 - k32) k32 T = F_staffF φ i a b S) (fun S1 => g_staffF φ i a b S = S1) ?_ n d S ?_
  · rintro _ _ _ _ S1 ⟨k32, hkk, rfl, rfl, rfl, rfl, hx0, e⟩
    unfold D_staffF_32
    rcases Nat.lt_or_ge k32 (8) with hk | hk
    · rw [show 8 - k32 = (8 - (k32 + 1)) + 1 by omega, r_staffF_32] at e
      refine ⟨fun q1 => ?_, fun q1 => ?_⟩
      · rw [if_pos q1] at e
        exact e.symm
      · refine ⟨fun q2 => ?_, fun q2 => ?_⟩
        · rw [if_neg q1, if_pos q2] at e
          exact e.symm
        · refine ⟨fun q3 => ?_, fun q3 => ?_⟩
          · rw [if_neg q1, if_neg q2, if_pos q3] at e
            exact ⟨(k32 + 1), by omega, (z_i1 k32).symm, rfl, rfl, rfl, by assumption, e⟩
          · intro _ _
            intro _ _
            refine ⟨hs (by assumption), ?_⟩
            rw [if_neg q1, if_neg q2, if_neg q3] at e
            exact ⟨(k32 + 1), by omega, (z_i1 k32).symm, rfl, rfl, rfl, by assumption, e⟩
    · rw [show 8 - k32 = 0 by omega, r8_staffF_32 hk hkk, r_staffF_32] at e
      refine ⟨fun q1 => ?_, fun q1 => ?_⟩
      · rw [if_pos q1] at e
        exact e.symm
      · refine ⟨fun q2 => ?_, fun q2 => ?_⟩
        · rw [if_neg q1, if_pos q2] at e
          exact e.symm
        · exact absurd (z_8le hk hkk) q2
  · unfold D_staffF
    refine ⟨fun q4 => ?_, fun q4 => ?_⟩
    · refine ⟨fun q5 => ?_, fun q5 => ?_⟩
      · have e : g_X4_keepRow b S = F_staffF φ i a b S := by rw [F_staffF, if_pos q4, if_pos q5]
        exact e.symm
      · refine ⟨fun q6 => ?_, fun q6 => ?_⟩
        · have e : r_staffF_32 φ i a b (8 - 0) 0 S = F_staffF φ i a b S := by rw [F_staffF, if_pos q4, if_neg q5, if_pos q6]
          exact ⟨0, by omega, rfl, rfl, rfl, rfl, by assumption, e⟩
        · have e : g_X4_keepRow b S = F_staffF φ i a b S := by rw [F_staffF, if_pos q4, if_neg q5, if_neg q6]
          exact e.symm
    · have e : S = F_staffF φ i a b S := by rw [F_staffF, if_neg q4]
      exact e.symm
noncomputable def g_staffN : Nat → Int32 → Int32 → Int32 → v_Sf → v_Sf
  | 0 => g_staffF (fun _ _ _ S => S)
  | f + 1 => g_staffF (g_staffN f)
theorem c_staffN (L : Nat) (xs : Nat → Int32) (R : v_Rf) : ∀ (f n d : Nat) (i a b : Int32) (S : v_Sf), 8 ≤ i.toInt + f → u_P L xs n d m_X4_staffFrom 0 (lv_args 0 [.ref 77, .int i, .int a, .int b]) [] S R (z_V R (fun S1 => g_staffN f i a b S = S1)) := by
  intro f
  induction f with
  | zero =>
    intro n d i a b S h
    exact c_staffF L xs n d (fun _ => False) (fun _ _ _ S => S) (fun _ _ _ _ _ _ h => h.elim) i a b (fun q => by have := z_dp (B := 8) (by decide) q; omega) S
  | succ f ih =>
    intro n d i a b S h
    exact c_staffF L xs n d (fun i => 8 ≤ i.toInt + f) (g_staffN f) (fun n d i a b S h => ih n d i a b S h) i a b (fun q => by have := z_dp (B := 8) (by decide) q; show 8 ≤ (i + Int32.ofInt 1).toInt + f; omega) S
noncomputable def g_staff (i a b : Int32) (S : v_Sf) : v_Sf := g_staffN 8 i a b S
theorem c_staff (L : Nat) (xs : Nat → Int32) (n d : Nat) (i a b : Int32) (h : 0 ≤ i.toInt) (S : v_Sf) (R : v_Rf) : u_P L xs n d m_X4_staffFrom 0 (lv_args 0 [.ref 77, .int i, .int a, .int b]) [] S R (z_V R (fun S1 => g_staff i a b S = S1)) := c_staffN L xs R 8 n d i a b S (by omega)
noncomputable abbrev m_X4_lodge : g_M := (g_cn 4, yX4_lodge, cX4_lodge, 5, (some .boolean), g_look2 ttX4_lodge)
set_option maxRecDepth 20000 in
theorem mt_X4_lodge : g_mt 46 = some m_X4_lodge := rfl
noncomputable def D_X4_lodge_32 (c : Nat) (H32 : Int32 → v_Sf → Prop) (K : Int32 → v_Sf → Prop) (x4 : Int32) (S : v_Sf) : Prop := (((S 76 5) ≤ x4 → (((Int32.ofInt 1000) ≤ ((g_lodge (Int32.ofInt 0) (Int32.ofInt 0) (z_s S 76 12 (Int32.ofInt 1000))) 76 12) → K (Int32.ofInt 0) (g_lodge (Int32.ofInt 0) (Int32.ofInt 0) (z_s S 76 12 (Int32.ofInt 1000)))) ∧ (¬ ((Int32.ofInt 1000) ≤ ((g_lodge (Int32.ofInt 0) (Int32.ofInt 0) (z_s S 76 12 (Int32.ofInt 1000))) 76 12)) → K (Int32.ofInt 1) (g_lodge (Int32.ofInt 0) (Int32.ofInt 0) (z_s S 76 12 (Int32.ofInt 1000)))))) ∧ (¬ ((S 76 5) ≤ x4) → (((Int32.ofInt 8) ≤ x4 → (((Int32.ofInt 1000) ≤ ((g_lodge (Int32.ofInt 0) (Int32.ofInt 0) (z_s S 76 12 (Int32.ofInt 1000))) 76 12) → K (Int32.ofInt 0) (g_lodge (Int32.ofInt 0) (Int32.ofInt 0) (z_s S 76 12 (Int32.ofInt 1000)))) ∧ (¬ ((Int32.ofInt 1000) ≤ ((g_lodge (Int32.ofInt 0) (Int32.ofInt 0) (z_s S 76 12 (Int32.ofInt 1000))) 76 12)) → K (Int32.ofInt 1) (g_lodge (Int32.ofInt 0) (Int32.ofInt 0) (z_s S 76 12 (Int32.ofInt 1000)))))) ∧ (¬ ((Int32.ofInt 8) ≤ x4) → (0 ≤ x4.toInt → x4.toInt < 8 → (((Int32.ofNat 6) ≤ (S 78 x4.toInt.toNat) → (0 ≤ x4.toInt → x4.toInt < 8 → (0 ≤ x4.toInt → x4.toInt < 8 → H32 (x4 + (Int32.ofInt 1)) (z_s (z_s S 80 x4.toInt.toNat (Int32.ofInt 0)) 81 x4.toInt.toNat (Int32.ofInt 0))))) ∧ (¬ ((Int32.ofNat 6) ≤ (S 78 x4.toInt.toNat)) → (0 ≤ x4.toInt → x4.toInt < 8 → (0 ≤ (S 78 x4.toInt.toNat).toInt → (S 78 x4.toInt.toNat).toInt < 6 → (0 ≤ x4.toInt → x4.toInt < 8 → (0 ≤ x4.toInt → x4.toInt < 8 → H32 (x4 + (Int32.ofInt 1)) (z_s (z_s S 80 x4.toInt.toNat (S ((33 + 2 * (S 78 x4.toInt.toNat).toInt.toNat)) 2)) 81 x4.toInt.toNat (Int32.ofInt 0)))))))))))))
noncomputable def D_X4_lodge (c : Nat) (a : Int32) (b : Int32) (H32 : Int32 → v_Sf → Prop) (K : Int32 → v_Sf → Prop) (S : v_Sf) : Prop := H32 (Int32.ofInt 0) (g_X4_learnOdds c (z_s (g_spread78 b (z_s (g_spread77 a S) 76 4 (f_spread77 a S))) 76 5 (f_spread78 b (z_s (g_spread77 a S) 76 4 (f_spread77 a S)))))
set_option maxRecDepth 4000 in
theorem hd_X4_lodge (L : Nat) (xs : Nat → Int32) {R : v_Rf} (hW : z_W R) {c : Nat} (hL : R 50 2 = some (c + 1)) (hc : z_cd c) (a : Int32) (b : Int32) (H32 : Int32 → v_Sf → Prop) (K : Int32 → v_Sf → Prop) (k32 : ∀ (x4 : Int32) (S : v_Sf), H32 x4 S → D_X4_lodge_32 c H32 K x4 S) : ∀ n, (∀ (d : Nat) (j1 : Nat) (j2 : Int32) (j3 : Int32) (x4 : Int32) (S : v_Sf), H32 x4 S → u_P L xs n d m_X4_lodge 32 [(0, .ref 77), (1, .ref j1), (2, .int j2), (3, .int j3), (4, .int x4)] [] S R (z_Q R K)) := by
  intro n
  induction n using Nat.strongRecOn with
  | ind n ih =>
    intro d j1 j2 j3 x4 S hD
    have hD := k32 x4 S hD
    unfold D_X4_lodge_32 at hD
    show u_P L xs n d m_X4_lodge 32 [(0, .ref 77), (1, .ref j1), (2, .int j2), (3, .int j3), (4, .int x4)] [] S R _
    refine u_st1 rfl (fun _ => rfl) (fun m hm => ?_)
    refine u_st rfl (fun _ => rfl) ?_
    show u_P L xs m d m_X4_lodge 35 [(0, .ref 77), (1, .ref j1), (2, .int j2), (3, .int j3), (4, .int x4)] [.ref 77, .int x4] S R _
    refine u_getE (v := S 76 5) rfl rfl rfl rfl ?_
    show u_P L xs m d m_X4_lodge 38 [(0, .ref 77), (1, .ref j1), (2, .int j2), (3, .int j3), (4, .int x4)] [.int (S 76 5), .int x4] S R _
    refine u_ic_ge rfl (fun h1 => ?_) (fun h1 => ?_)
    · have hD := hD.1 h1
      show u_P L xs m d m_X4_lodge 103 [(0, .ref 77), (1, .ref j1), (2, .int j2), (3, .int j3), (4, .int x4)] [] S R _
      refine u_st rfl (fun _ => rfl) ?_
      refine u_st rfl (fun _ => rfl) ?_
      show u_P L xs m d m_X4_lodge 107 [(0, .ref 77), (1, .ref j1), (2, .int j2), (3, .int j3), (4, .int x4)] [.int (Int32.ofInt 1000), .ref 77] S R _
      refine u_put rfl rfl rfl ?_
      refine u_st rfl (fun _ => rfl) ?_
      refine u_st rfl (fun _ => rfl) ?_
      refine u_st rfl (fun _ => rfl) ?_
      show u_P L xs m d m_X4_lodge 113 [(0, .ref 77), (1, .ref j1), (2, .int j2), (3, .int j3), (4, .int x4)] [.int (Int32.ofInt 0), .int (Int32.ofInt 0), .ref 77] (z_s S 76 12 (Int32.ofInt 1000)) R _
      refine u_cv (rest := []) rfl (by decide) mt_X4_lodgeFrom rfl rfl rfl rfl (Nat.le_of_ble_eq_true rfl) (Nat.le_of_ble_eq_true rfl) (Nat.le_of_ble_eq_true rfl) (fun d' => c_lodge L xs m d' (Int32.ofInt 0) (Int32.ofInt 0) (by decide) (z_s S 76 12 (Int32.ofInt 1000)) R) ?_
      rintro _ _ _ ⟨rfl, rfl, rfl⟩
      refine u_st rfl (fun _ => rfl) ?_
      show u_P L xs m d m_X4_lodge 117 [(0, .ref 77), (1, .ref j1), (2, .int j2), (3, .int j3), (4, .int x4)] [.ref 77] (g_lodge (Int32.ofInt 0) (Int32.ofInt 0) (z_s S 76 12 (Int32.ofInt 1000))) R _
      refine u_getE (v := (g_lodge (Int32.ofInt 0) (Int32.ofInt 0) (z_s S 76 12 (Int32.ofInt 1000))) 76 12) rfl rfl rfl rfl ?_
      refine u_st rfl (fun _ => rfl) ?_
      show u_P L xs m d m_X4_lodge 123 [(0, .ref 77), (1, .ref j1), (2, .int j2), (3, .int j3), (4, .int x4)] [.int (Int32.ofInt 1000), .int ((g_lodge (Int32.ofInt 0) (Int32.ofInt 0) (z_s S 76 12 (Int32.ofInt 1000))) 76 12)] (g_lodge (Int32.ofInt 0) (Int32.ofInt 0) (z_s S 76 12 (Int32.ofInt 1000))) R _
      refine u_ic_ge rfl (fun h2 => ?_) (fun h2 => ?_)
      · have hD := hD.1 h2
        show u_P L xs m d m_X4_lodge 130 [(0, .ref 77), (1, .ref j1), (2, .int j2), (3, .int j3), (4, .int x4)] [] (g_lodge (Int32.ofInt 0) (Int32.ofInt 0) (z_s S 76 12 (Int32.ofInt 1000))) R _
        refine u_st rfl (fun _ => rfl) ?_
        show u_P L xs m d m_X4_lodge 131 [(0, .ref 77), (1, .ref j1), (2, .int j2), (3, .int j3), (4, .int x4)] [.int (Int32.ofInt 0)] (g_lodge (Int32.ofInt 0) (Int32.ofInt 0) (z_s S 76 12 (Int32.ofInt 1000))) R _
        exact u_retb rfl rfl ⟨_, rfl, rfl, hD⟩
      · have hD := hD.2 h2
        show u_P L xs m d m_X4_lodge 126 [(0, .ref 77), (1, .ref j1), (2, .int j2), (3, .int j3), (4, .int x4)] [] (g_lodge (Int32.ofInt 0) (Int32.ofInt 0) (z_s S 76 12 (Int32.ofInt 1000))) R _
        refine u_st rfl (fun _ => rfl) ?_
        refine u_st rfl (fun _ => rfl) ?_
        show u_P L xs m d m_X4_lodge 131 [(0, .ref 77), (1, .ref j1), (2, .int j2), (3, .int j3), (4, .int x4)] [.int (Int32.ofInt 1)] (g_lodge (Int32.ofInt 0) (Int32.ofInt 0) (z_s S 76 12 (Int32.ofInt 1000))) R _
        exact u_retb rfl rfl ⟨_, rfl, rfl, hD⟩
    · have hD := hD.2 h1
      show u_P L xs m d m_X4_lodge 41 [(0, .ref 77), (1, .ref j1), (2, .int j2), (3, .int j3), (4, .int x4)] [] S R _
      refine u_st rfl (fun _ => rfl) ?_
      refine u_st rfl (fun _ => rfl) ?_
      show u_P L xs m d m_X4_lodge 45 [(0, .ref 77), (1, .ref j1), (2, .int j2), (3, .int j3), (4, .int x4)] [.int (Int32.ofInt 8), .int x4] S R _
      refine u_ic_ge rfl (fun h3 => ?_) (fun h3 => ?_)
      · have hD := hD.1 h3
        show u_P L xs m d m_X4_lodge 103 [(0, .ref 77), (1, .ref j1), (2, .int j2), (3, .int j3), (4, .int x4)] [] S R _
        refine u_st rfl (fun _ => rfl) ?_
        refine u_st rfl (fun _ => rfl) ?_
        show u_P L xs m d m_X4_lodge 107 [(0, .ref 77), (1, .ref j1), (2, .int j2), (3, .int j3), (4, .int x4)] [.int (Int32.ofInt 1000), .ref 77] S R _
        refine u_put rfl rfl rfl ?_
        refine u_st rfl (fun _ => rfl) ?_
        refine u_st rfl (fun _ => rfl) ?_
        refine u_st rfl (fun _ => rfl) ?_
        show u_P L xs m d m_X4_lodge 113 [(0, .ref 77), (1, .ref j1), (2, .int j2), (3, .int j3), (4, .int x4)] [.int (Int32.ofInt 0), .int (Int32.ofInt 0), .ref 77] (z_s S 76 12 (Int32.ofInt 1000)) R _
        refine u_cv (rest := []) rfl (by decide) mt_X4_lodgeFrom rfl rfl rfl rfl (Nat.le_of_ble_eq_true rfl) (Nat.le_of_ble_eq_true rfl) (Nat.le_of_ble_eq_true rfl) (fun d' => c_lodge L xs m d' (Int32.ofInt 0) (Int32.ofInt 0) (by decide) (z_s S 76 12 (Int32.ofInt 1000)) R) ?_
        rintro _ _ _ ⟨rfl, rfl, rfl⟩
        refine u_st rfl (fun _ => rfl) ?_
        show u_P L xs m d m_X4_lodge 117 [(0, .ref 77), (1, .ref j1), (2, .int j2), (3, .int j3), (4, .int x4)] [.ref 77] (g_lodge (Int32.ofInt 0) (Int32.ofInt 0) (z_s S 76 12 (Int32.ofInt 1000))) R _
        refine u_getE (v := (g_lodge (Int32.ofInt 0) (Int32.ofInt 0) (z_s S 76 12 (Int32.ofInt 1000))) 76 12) rfl rfl rfl rfl ?_
        refine u_st rfl (fun _ => rfl) ?_
        show u_P L xs m d m_X4_lodge 123 [(0, .ref 77), (1, .ref j1), (2, .int j2), (3, .int j3), (4, .int x4)] [.int (Int32.ofInt 1000), .int ((g_lodge (Int32.ofInt 0) (Int32.ofInt 0) (z_s S 76 12 (Int32.ofInt 1000))) 76 12)] (g_lodge (Int32.ofInt 0) (Int32.ofInt 0) (z_s S 76 12 (Int32.ofInt 1000))) R _
        refine u_ic_ge rfl (fun h4 => ?_) (fun h4 => ?_)
        · have hD := hD.1 h4
          show u_P L xs m d m_X4_lodge 130 [(0, .ref 77), (1, .ref j1), (2, .int j2), (3, .int j3), (4, .int x4)] [] (g_lodge (Int32.ofInt 0) (Int32.ofInt 0) (z_s S 76 12 (Int32.ofInt 1000))) R _
          refine u_st rfl (fun _ => rfl) ?_
          show u_P L xs m d m_X4_lodge 131 [(0, .ref 77), (1, .ref j1), (2, .int j2), (3, .int j3), (4, .int x4)] [.int (Int32.ofInt 0)] (g_lodge (Int32.ofInt 0) (Int32.ofInt 0) (z_s S 76 12 (Int32.ofInt 1000))) R _
          exact u_retb rfl rfl ⟨_, rfl, rfl, hD⟩
        · have hD := hD.2 h4
          show u_P L xs m d m_X4_lodge 126 [(0, .ref 77), (1, .ref j1), (2, .int j2), (3, .int j3), (4, .int x4)] [] (g_lodge (Int32.ofInt 0) (Int32.ofInt 0) (z_s S 76 12 (Int32.ofInt 1000))) R _
          refine u_st rfl (fun _ => rfl) ?_
          refine u_st rfl (fun _ => rfl) ?_
          show u_P L xs m d m_X4_lodge 131 [(0, .ref 77), (1, .ref j1), (2, .int j2), (3, .int j3), (4, .int x4)] [.int (Int32.ofInt 1)] (g_lodge (Int32.ofInt 0) (Int32.ofInt 0) (z_s S 76 12 (Int32.ofInt 1000))) R _
          exact u_retb rfl rfl ⟨_, rfl, rfl, hD⟩
      · have hD := hD.2 h3
        show u_P L xs m d m_X4_lodge 48 [(0, .ref 77), (1, .ref j1), (2, .int j2), (3, .int j3), (4, .int x4)] [] S R _
        refine u_st rfl (fun _ => rfl) ?_
        show u_P L xs m d m_X4_lodge 49 [(0, .ref 77), (1, .ref j1), (2, .int j2), (3, .int j3), (4, .int x4)] [.ref 77] S R _
        refine u_getr rfl rfl rfl ?_
        refine u_st rfl (fun _ => rfl) ?_
        refine u_st rfl (fun _ => rfl) ?_
        show u_P L xs m d m_X4_lodge 55 [(0, .ref 77), (1, .ref j1), (2, .int j2), (3, .int j3), (4, .int x4)] [.ref 77, .int x4, .ref 81] S R _
        refine u_getr rfl rfl rfl ?_
        refine u_st rfl (fun _ => rfl) ?_
        show u_P L xs m d m_X4_lodge 60 [(0, .ref 77), (1, .ref j1), (2, .int j2), (3, .int j3), (4, .int x4)] [.int x4, .ref 79, .int x4, .ref 81] S R _
        refine u_ialdE (v := S 78 x4.toInt.toNat) rfl rfl rfl (fun b51 b52 => ?_)
        have hD := hD b51 b52
        show u_P L xs m d m_X4_lodge 61 [(0, .ref 77), (1, .ref j1), (2, .int j2), (3, .int j3), (4, .int x4)] [.int (S 78 x4.toInt.toNat), .int x4, .ref 81] S R _
        refine u_st rfl (fun _ => rfl) ?_
        show u_P L xs m d m_X4_lodge 62 [(0, .ref 77), (1, .ref j1), (2, .int j2), (3, .int j3), (4, .int x4)] [.ref 77, .int (S 78 x4.toInt.toNat), .int x4, .ref 81] S R _
        refine u_getr rfl rfl rfl ?_
        show u_P L xs m d m_X4_lodge 65 [(0, .ref 77), (1, .ref j1), (2, .int j2), (3, .int j3), (4, .int x4)] [.ref 33, .int (S 78 x4.toInt.toNat), .int x4, .ref 81] S R _
        refine u_alr rfl rfl ?_
        show u_P L xs m d m_X4_lodge 66 [(0, .ref 77), (1, .ref j1), (2, .int j2), (3, .int j3), (4, .int x4)] [.int (Int32.ofNat 6), .int (S 78 x4.toInt.toNat), .int x4, .ref 81] S R _
        refine u_ic_ge rfl (fun h6 => ?_) (fun h6 => ?_)
        · have hD := hD.1 h6
          show u_P L xs m d m_X4_lodge 87 [(0, .ref 77), (1, .ref j1), (2, .int j2), (3, .int j3), (4, .int x4)] [.int x4, .ref 81] S R _
          refine u_st rfl (fun _ => rfl) ?_
          show u_P L xs m d m_X4_lodge 88 [(0, .ref 77), (1, .ref j1), (2, .int j2), (3, .int j3), (4, .int x4)] [.int (Int32.ofInt 0), .int x4, .ref 81] S R _
          refine u_iast rfl rfl (fun b71 b72 => ?_)
          have hD := hD b71 b72
          show u_P L xs m d m_X4_lodge 89 [(0, .ref 77), (1, .ref j1), (2, .int j2), (3, .int j3), (4, .int x4)] [] (z_s S 80 x4.toInt.toNat (Int32.ofInt 0)) R _
          refine u_st rfl (fun _ => rfl) ?_
          show u_P L xs m d m_X4_lodge 90 [(0, .ref 77), (1, .ref j1), (2, .int j2), (3, .int j3), (4, .int x4)] [.ref 77] (z_s S 80 x4.toInt.toNat (Int32.ofInt 0)) R _
          refine u_getr rfl rfl rfl ?_
          refine u_st rfl (fun _ => rfl) ?_
          refine u_st rfl (fun _ => rfl) ?_
          show u_P L xs m d m_X4_lodge 96 [(0, .ref 77), (1, .ref j1), (2, .int j2), (3, .int j3), (4, .int x4)] [.int (Int32.ofInt 0), .int x4, .ref 82] (z_s S 80 x4.toInt.toNat (Int32.ofInt 0)) R _
          refine u_iast rfl rfl (fun b81 b82 => ?_)
          have hD := hD b81 b82
          show u_P L xs m d m_X4_lodge 97 [(0, .ref 77), (1, .ref j1), (2, .int j2), (3, .int j3), (4, .int x4)] [] (z_s (z_s S 80 x4.toInt.toNat (Int32.ofInt 0)) 81 x4.toInt.toNat (Int32.ofInt 0)) R _
          refine u_st rfl (fun _ => rfl) ?_
          refine u_st rfl (fun _ => rfl) ?_
          refine u_lc (b := [(0, .ref 77), (1, .ref j1), (2, .int j2), (3, .int j3), (4, .int (x4 + (Int32.ofInt 1)))]) (show ([4, 0, 1, 2, 3] : List Nat).Nodup by decide) (show ([0, 1, 2, 3, 4] : List Nat).Nodup by decide) (fun i => match i with | 0 => rfl | 1 => rfl | 2 => rfl | 3 => rfl | 4 => rfl | _ + 5 => rfl) ?_
          exact (ih m hm) d j1 j2 j3 (x4 + (Int32.ofInt 1)) (z_s (z_s S 80 x4.toInt.toNat (Int32.ofInt 0)) 81 x4.toInt.toNat (Int32.ofInt 0)) hD
        · have hD := hD.2 h6
          show u_P L xs m d m_X4_lodge 69 [(0, .ref 77), (1, .ref j1), (2, .int j2), (3, .int j3), (4, .int x4)] [.int x4, .ref 81] S R _
          refine u_st rfl (fun _ => rfl) ?_
          show u_P L xs m d m_X4_lodge 70 [(0, .ref 77), (1, .ref j1), (2, .int j2), (3, .int j3), (4, .int x4)] [.ref 77, .int x4, .ref 81] S R _
          refine u_getr rfl rfl rfl ?_
          refine u_st rfl (fun _ => rfl) ?_
          show u_P L xs m d m_X4_lodge 74 [(0, .ref 77), (1, .ref j1), (2, .int j2), (3, .int j3), (4, .int x4)] [.ref 77, .ref 33, .int x4, .ref 81] S R _
          refine u_getr rfl rfl rfl ?_
          refine u_st rfl (fun _ => rfl) ?_
          show u_P L xs m d m_X4_lodge 79 [(0, .ref 77), (1, .ref j1), (2, .int j2), (3, .int j3), (4, .int x4)] [.int x4, .ref 79, .ref 33, .int x4, .ref 81] S R _
          refine u_ialdE (v := S 78 x4.toInt.toNat) rfl rfl rfl (fun b91 b92 => ?_)
          have hD := hD b91 b92
          show u_P L xs m d m_X4_lodge 80 [(0, .ref 77), (1, .ref j1), (2, .int j2), (3, .int j3), (4, .int x4)] [.int (S 78 x4.toInt.toNat), .ref 33, .int x4, .ref 81] S R _
          refine u_aald rfl rfl (fun b101 b102 => ?_)
          rw [hW _ (z_lt6 b101 b102)]
          have hD := hD b101 b102
          show u_P L xs m d m_X4_lodge 81 [(0, .ref 77), (1, .ref j1), (2, .int j2), (3, .int j3), (4, .int x4)] [.ref (((33 + 2 * (S 78 x4.toInt.toNat).toInt.toNat)) + 1), .int x4, .ref 81] S R _
          refine u_getE (v := S ((33 + 2 * (S 78 x4.toInt.toNat).toInt.toNat)) 2) rfl (z_wd0 (z_wdi b101 b102)) rfl rfl ?_
          refine u_st rfl (fun _ => rfl) ?_
          show u_P L xs m d m_X4_lodge 88 [(0, .ref 77), (1, .ref j1), (2, .int j2), (3, .int j3), (4, .int x4)] [.int (S ((33 + 2 * (S 78 x4.toInt.toNat).toInt.toNat)) 2), .int x4, .ref 81] S R _
          refine u_iast rfl rfl (fun b111 b112 => ?_)
          have hD := hD b111 b112
          show u_P L xs m d m_X4_lodge 89 [(0, .ref 77), (1, .ref j1), (2, .int j2), (3, .int j3), (4, .int x4)] [] (z_s S 80 x4.toInt.toNat (S ((33 + 2 * (S 78 x4.toInt.toNat).toInt.toNat)) 2)) R _
          refine u_st rfl (fun _ => rfl) ?_
          show u_P L xs m d m_X4_lodge 90 [(0, .ref 77), (1, .ref j1), (2, .int j2), (3, .int j3), (4, .int x4)] [.ref 77] (z_s S 80 x4.toInt.toNat (S ((33 + 2 * (S 78 x4.toInt.toNat).toInt.toNat)) 2)) R _
          refine u_getr rfl rfl rfl ?_
          refine u_st rfl (fun _ => rfl) ?_
          refine u_st rfl (fun _ => rfl) ?_
          show u_P L xs m d m_X4_lodge 96 [(0, .ref 77), (1, .ref j1), (2, .int j2), (3, .int j3), (4, .int x4)] [.int (Int32.ofInt 0), .int x4, .ref 82] (z_s S 80 x4.toInt.toNat (S ((33 + 2 * (S 78 x4.toInt.toNat).toInt.toNat)) 2)) R _
          refine u_iast rfl rfl (fun b121 b122 => ?_)
          have hD := hD b121 b122
          show u_P L xs m d m_X4_lodge 97 [(0, .ref 77), (1, .ref j1), (2, .int j2), (3, .int j3), (4, .int x4)] [] (z_s (z_s S 80 x4.toInt.toNat (S ((33 + 2 * (S 78 x4.toInt.toNat).toInt.toNat)) 2)) 81 x4.toInt.toNat (Int32.ofInt 0)) R _
          refine u_st rfl (fun _ => rfl) ?_
          refine u_st rfl (fun _ => rfl) ?_
          refine u_lc (b := [(0, .ref 77), (1, .ref j1), (2, .int j2), (3, .int j3), (4, .int (x4 + (Int32.ofInt 1)))]) (show ([4, 0, 1, 2, 3] : List Nat).Nodup by decide) (show ([0, 1, 2, 3, 4] : List Nat).Nodup by decide) (fun i => match i with | 0 => rfl | 1 => rfl | 2 => rfl | 3 => rfl | 4 => rfl | _ + 5 => rfl) ?_
          exact (ih m hm) d j1 j2 j3 (x4 + (Int32.ofInt 1)) (z_s (z_s S 80 x4.toInt.toNat (S ((33 + 2 * (S 78 x4.toInt.toNat).toInt.toNat)) 2)) 81 x4.toInt.toNat (Int32.ofInt 0)) hD
set_option maxRecDepth 4000 in
theorem w_X4_lodge (L : Nat) (xs : Nat → Int32) {R : v_Rf} (hW : z_W R) {c : Nat} (hL : R 50 2 = some (c + 1)) (hc : z_cd c) (a : Int32) (b : Int32) (H32 : Int32 → v_Sf → Prop) (K : Int32 → v_Sf → Prop) (k32 : ∀ (x4 : Int32) (S : v_Sf), H32 x4 S → D_X4_lodge_32 c H32 K x4 S) (n d : Nat) (S : v_Sf) (hD : D_X4_lodge c a b H32 K S) : u_P L xs n d m_X4_lodge 0 (lv_args 0 [.ref 77, .ref 2, .int a, .int b]) [] S R (z_Q R K) := by
  unfold D_X4_lodge at hD
  show u_P L xs n d m_X4_lodge 0 [(0, .ref 77), (1, .ref 2), (2, .int a), (3, .int b)] [] S R _
  refine u_st rfl (fun _ => rfl) ?_
  refine u_st rfl (fun _ => rfl) ?_
  refine u_st rfl (fun _ => rfl) ?_
  show u_P L xs n d m_X4_lodge 3 [(0, .ref 77), (1, .ref 2), (2, .int a), (3, .int b)] [.ref 77, .int a, .ref 77] S R _
  refine u_getr rfl rfl rfl ?_
  show u_P L xs n d m_X4_lodge 6 [(0, .ref 77), (1, .ref 2), (2, .int a), (3, .int b)] [.ref 78, .int a, .ref 77] S R _
  refine u_cs (ac := [.int a, .ref 78]) (rest := [.ref 77]) rfl (by decide) mt_X4_spread (fun _ => rfl) (Nat.le_of_ble_eq_true rfl) (Nat.le_of_ble_eq_true rfl) (fun d' => c_spread77 L xs n d' a S R) ?_
  rintro _ _ _ ⟨_, rfl, rfl, rfl, rfl⟩
  show u_P L xs n d m_X4_lodge 9 [(0, .ref 77), (1, .ref 2), (2, .int a), (3, .int b)] [.int (f_spread77 a S), .ref 77] (g_spread77 a S) R _
  refine u_put rfl rfl rfl ?_
  refine u_st rfl (fun _ => rfl) ?_
  refine u_st rfl (fun _ => rfl) ?_
  refine u_st rfl (fun _ => rfl) ?_
  show u_P L xs n d m_X4_lodge 15 [(0, .ref 77), (1, .ref 2), (2, .int a), (3, .int b)] [.ref 77, .int b, .ref 77] (z_s (g_spread77 a S) 76 4 (f_spread77 a S)) R _
  refine u_getr rfl rfl rfl ?_
  show u_P L xs n d m_X4_lodge 18 [(0, .ref 77), (1, .ref 2), (2, .int a), (3, .int b)] [.ref 79, .int b, .ref 77] (z_s (g_spread77 a S) 76 4 (f_spread77 a S)) R _
  refine u_cs (ac := [.int b, .ref 79]) (rest := [.ref 77]) rfl (by decide) mt_X4_spread (fun _ => rfl) (Nat.le_of_ble_eq_true rfl) (Nat.le_of_ble_eq_true rfl) (fun d' => c_spread78 L xs n d' b (z_s (g_spread77 a S) 76 4 (f_spread77 a S)) R) ?_
  rintro _ _ _ ⟨_, rfl, rfl, rfl, rfl⟩
  show u_P L xs n d m_X4_lodge 21 [(0, .ref 77), (1, .ref 2), (2, .int a), (3, .int b)] [.int (f_spread78 b (z_s (g_spread77 a S) 76 4 (f_spread77 a S))), .ref 77] (g_spread78 b (z_s (g_spread77 a S) 76 4 (f_spread77 a S))) R _
  refine u_put rfl rfl rfl ?_
  refine u_st rfl (fun _ => rfl) ?_
  refine u_st rfl (fun _ => rfl) ?_
  show u_P L xs n d m_X4_lodge 26 [(0, .ref 77), (1, .ref 2), (2, .int a), (3, .int b)] [.ref 2, .ref 77] (z_s (g_spread78 b (z_s (g_spread77 a S) 76 4 (f_spread77 a S))) 76 5 (f_spread78 b (z_s (g_spread77 a S) 76 4 (f_spread77 a S)))) R _
  refine u_cv (rest := []) rfl (by decide) mt_X4_learnOdds rfl rfl rfl rfl (Nat.le_of_ble_eq_true rfl) (Nat.le_of_ble_eq_true rfl) (Nat.le_of_ble_eq_true rfl) (fun d' => c_X4_learnOdds L xs n d' hW hL hc (z_s (g_spread78 b (z_s (g_spread77 a S) 76 4 (f_spread77 a S))) 76 5 (f_spread78 b (z_s (g_spread77 a S) 76 4 (f_spread77 a S))))) ?_
  rintro _ _ _ ⟨rfl, rfl, rfl⟩
  refine u_st rfl (fun _ => rfl) ?_
  refine u_st rfl (fun _ => rfl) ?_
  refine u_lc (b := [(0, .ref 77), (1, .ref 2), (2, .int a), (3, .int b), (4, .int (Int32.ofInt 0))]) (show ([4, 0, 1, 2, 3] : List Nat).Nodup by decide) (show ([0, 1, 2, 3, 4] : List Nat).Nodup by decide) (fun i => match i with | 0 => rfl | 1 => rfl | 2 => rfl | 3 => rfl | 4 => rfl | _ + 5 => rfl) ?_
  exact (hd_X4_lodge L xs hW hL hc a b H32 K k32 n) d (2) a b (Int32.ofInt 0) (g_X4_learnOdds c (z_s (g_spread78 b (z_s (g_spread77 a S) 76 4 (f_spread77 a S))) 76 5 (f_spread78 b (z_s (g_spread77 a S) 76 4 (f_spread77 a S))))) hD
noncomputable def r_X4_lodge_32 (c : Nat) : Nat → Nat → v_Sf → Int32 × v_Sf
  | 0, k32, S => (if (Int32.ofInt 1000) ≤ ((g_lodge (Int32.ofInt 0) (Int32.ofInt 0) (z_s S 76 12 (Int32.ofInt 1000))) 76 12) then (Int32.ofInt 0, g_lodge (Int32.ofInt 0) (Int32.ofInt 0) (z_s S 76 12 (Int32.ofInt 1000))) else (Int32.ofInt 1, g_lodge (Int32.ofInt 0) (Int32.ofInt 0) (z_s S 76 12 (Int32.ofInt 1000))))
  | r + 1, k32, S => (if (S 76 5) ≤ (z_i k32) then (if (Int32.ofInt 1000) ≤ ((g_lodge (Int32.ofInt 0) (Int32.ofInt 0) (z_s S 76 12 (Int32.ofInt 1000))) 76 12) then (Int32.ofInt 0, g_lodge (Int32.ofInt 0) (Int32.ofInt 0) (z_s S 76 12 (Int32.ofInt 1000))) else (Int32.ofInt 1, g_lodge (Int32.ofInt 0) (Int32.ofInt 0) (z_s S 76 12 (Int32.ofInt 1000)))) else (if (Int32.ofInt 8) ≤ (z_i k32) then (if (Int32.ofInt 1000) ≤ ((g_lodge (Int32.ofInt 0) (Int32.ofInt 0) (z_s S 76 12 (Int32.ofInt 1000))) 76 12) then (Int32.ofInt 0, g_lodge (Int32.ofInt 0) (Int32.ofInt 0) (z_s S 76 12 (Int32.ofInt 1000))) else (Int32.ofInt 1, g_lodge (Int32.ofInt 0) (Int32.ofInt 0) (z_s S 76 12 (Int32.ofInt 1000)))) else (if (Int32.ofNat 6) ≤ (S 78 (z_i k32).toInt.toNat) then r_X4_lodge_32 c r (k32 + 1) (z_s (z_s S 80 (z_i k32).toInt.toNat (Int32.ofInt 0)) 81 (z_i k32).toInt.toNat (Int32.ofInt 0)) else r_X4_lodge_32 c r (k32 + 1) (z_s (z_s S 80 (z_i k32).toInt.toNat (S ((33 + 2 * (S 78 (z_i k32).toInt.toNat).toInt.toNat)) 2)) 81 (z_i k32).toInt.toNat (Int32.ofInt 0)))))
theorem r8_X4_lodge_32 {c : Nat} {k : Nat} (h : 8 ≤ k) (h2 : k ≤ 8) {S : v_Sf} : r_X4_lodge_32 c 0 k S = r_X4_lodge_32 c (0 + 1) k S := by
  rw [r_X4_lodge_32, r_X4_lodge_32]
  by_cases q : (S 76 5) ≤ (z_i k)
  · rw [if_pos q]
  · rw [if_neg q, if_pos (z_8le h h2)]
noncomputable def F_X4_lodge (c : Nat) (a : Int32) (b : Int32) (S : v_Sf) : Int32 × v_Sf := r_X4_lodge_32 c (8 - 0) 0 (g_X4_learnOdds c (z_s (g_spread78 b (z_s (g_spread77 a S) 76 4 (f_spread77 a S))) 76 5 (f_spread78 b (z_s (g_spread77 a S) 76 4 (f_spread77 a S)))))
noncomputable def f_X4_lodge (c : Nat) (a : Int32) (b : Int32) (S : v_Sf) : Int32 := (F_X4_lodge c a b S).1
noncomputable def g_X4_lodge (c : Nat) (a : Int32) (b : Int32) (S : v_Sf) : v_Sf := (F_X4_lodge c a b S).2
theorem c_X4_lodge (L : Nat) (xs : Nat → Int32) (n d : Nat) {R : v_Rf} (hW : z_W R) {c : Nat} (hL : R 50 2 = some (c + 1)) (hc : z_cd c) (a : Int32) (b : Int32) (S : v_Sf) : u_P L xs n d m_X4_lodge 0 (lv_args 0 [.ref 77, .ref 2, .int a, .int b]) [] S R (z_Q R (fun v S1 => f_X4_lodge c a b S = v ∧ g_X4_lodge c a b S = S1)) := by
  refine w_X4_lodge L xs hW hL hc a b (fun y4 T => ∃ (k32 : Nat), k32 ≤ 8 ∧ z_i k32 = y4 ∧ r_X4_lodge_32 c (8 - k32) k32 T = F_X4_lodge c a b S) (fun v S1 => f_X4_lodge c a b S = v ∧ g_X4_lodge c a b S = S1) ?_ n d S ?_
  · rintro _ S1 ⟨k32, hkk, rfl, e⟩
    unfold D_X4_lodge_32
    rcases Nat.lt_or_ge k32 (8) with hk | hk
    · rw [show 8 - k32 = (8 - (k32 + 1)) + 1 by omega, r_X4_lodge_32] at e
      refine ⟨fun q1 => ?_, fun q1 => ?_⟩
      · refine ⟨fun q2 => ?_, fun q2 => ?_⟩
        · rw [if_pos q1, if_pos q2] at e
          have e1 := congrArg Prod.fst e.symm
          have e2 := congrArg Prod.snd e.symm
          exact ⟨e1, e2⟩
        · rw [if_pos q1, if_neg q2] at e
          have e1 := congrArg Prod.fst e.symm
          have e2 := congrArg Prod.snd e.symm
          exact ⟨e1, e2⟩
      · refine ⟨fun q3 => ?_, fun q3 => ?_⟩
        · refine ⟨fun q4 => ?_, fun q4 => ?_⟩
          · rw [if_neg q1, if_pos q3, if_pos q4] at e
            have e1 := congrArg Prod.fst e.symm
            have e2 := congrArg Prod.snd e.symm
            exact ⟨e1, e2⟩
          · rw [if_neg q1, if_pos q3, if_neg q4] at e
            have e1 := congrArg Prod.fst e.symm
            have e2 := congrArg Prod.snd e.symm
            exact ⟨e1, e2⟩
        · intro _ _
          refine ⟨fun q5 => ?_, fun q5 => ?_⟩
          · intro _ _
            intro _ _
            rw [if_neg q1, if_neg q3, if_pos q5] at e
            exact ⟨(k32 + 1), by omega, (z_i1 k32).symm, e⟩
          · intro _ _
            intro _ _
            intro _ _
            intro _ _
            rw [if_neg q1, if_neg q3, if_neg q5] at e
            exact ⟨(k32 + 1), by omega, (z_i1 k32).symm, e⟩
    · rw [show 8 - k32 = 0 by omega, r8_X4_lodge_32 hk hkk, r_X4_lodge_32] at e
      refine ⟨fun q1 => ?_, fun q1 => ?_⟩
      · refine ⟨fun q2 => ?_, fun q2 => ?_⟩
        · rw [if_pos q1, if_pos q2] at e
          have e1 := congrArg Prod.fst e.symm
          have e2 := congrArg Prod.snd e.symm
          exact ⟨e1, e2⟩
        · rw [if_pos q1, if_neg q2] at e
          have e1 := congrArg Prod.fst e.symm
          have e2 := congrArg Prod.snd e.symm
          exact ⟨e1, e2⟩
      · refine ⟨fun q3 => ?_, fun q3 => ?_⟩
        · refine ⟨fun q4 => ?_, fun q4 => ?_⟩
          · rw [if_neg q1, if_pos q3, if_pos q4] at e
            have e1 := congrArg Prod.fst e.symm
            have e2 := congrArg Prod.snd e.symm
            exact ⟨e1, e2⟩
          · rw [if_neg q1, if_pos q3, if_neg q4] at e
            have e1 := congrArg Prod.fst e.symm
            have e2 := congrArg Prod.snd e.symm
            exact ⟨e1, e2⟩
        · exact absurd (z_8le hk hkk) q3
  · unfold D_X4_lodge
    have e : r_X4_lodge_32 c (8 - 0) 0 (g_X4_learnOdds c (z_s (g_spread78 b (z_s (g_spread77 a S) 76 4 (f_spread77 a S))) 76 5 (f_spread78 b (z_s (g_spread77 a S) 76 4 (f_spread77 a S))))) = F_X4_lodge c a b S := by rw [F_X4_lodge]
    exact ⟨0, by omega, rfl, e⟩
noncomputable abbrev m_X4_staff : g_M := (g_cn 4, yX4_staff, cX4_staff, 6, none, g_look2 ttX4_staff)
set_option maxRecDepth 20000 in
theorem mt_X4_staff : g_mt 47 = some m_X4_staff := rfl
noncomputable def D_X4_staff_27 (c : Nat) (H27 : Int32 → v_Sf → Prop) (H46 : Int32 → Int32 → v_Sf → Prop) (K : v_Sf → Prop) (x4 : Int32) (S : v_Sf) : Prop := (((S 76 4) ≤ x4 → K (g_staff (Int32.ofInt 0) (Int32.ofInt 0) (Int32.ofInt 0) (z_s S 76 12 (Int32.ofInt 1000)))) ∧ (¬ ((S 76 4) ≤ x4) → (((Int32.ofInt 8) ≤ x4 → K (g_staff (Int32.ofInt 0) (Int32.ofInt 0) (Int32.ofInt 0) (z_s S 76 12 (Int32.ofInt 1000)))) ∧ (¬ ((Int32.ofInt 8) ≤ x4) → H46 x4 (Int32.ofInt 0) S))))
noncomputable def D_X4_staff_46 (c : Nat) (H27 : Int32 → v_Sf → Prop) (H46 : Int32 → Int32 → v_Sf → Prop) (K : v_Sf → Prop) (x4 : Int32) (x5 : Int32) (S : v_Sf) : Prop := (((S 76 5) ≤ x5 → H27 (x4 + (Int32.ofInt 1)) S) ∧ (¬ ((S 76 5) ≤ x5) → (((Int32.ofInt 8) ≤ x5 → H27 (x4 + (Int32.ofInt 1)) S) ∧ (¬ ((Int32.ofInt 8) ≤ x5) → (0 ≤ x4.toInt → x4.toInt < 8 → (0 ≤ x5.toInt → x5.toInt < 8 → (0 ≤ ((x4 * (Int32.ofInt 8)) + x5).toInt → ((x4 * (Int32.ofInt 8)) + x5).toInt < 64 → H46 x4 (x5 + (Int32.ofInt 1)) (z_s (g_X3_illness c 1 (S 77 x4.toInt.toNat) (S 78 x5.toInt.toNat) S) 82 (((x4 * (Int32.ofInt 8)) + x5).toInt.toNat) (f_X3_illness c 1 (S 77 x4.toInt.toNat) (S 78 x5.toInt.toNat) S)))))))))
noncomputable def D_X4_staff (c : Nat) (a : Int32) (b : Int32) (H27 : Int32 → v_Sf → Prop) (H46 : Int32 → Int32 → v_Sf → Prop) (K : v_Sf → Prop) (S : v_Sf) : Prop := H27 (Int32.ofInt 0) (z_s (g_spread78 a (z_s (g_spread77 b S) 76 4 (f_spread77 b S))) 76 5 (f_spread78 a (z_s (g_spread77 b S) 76 4 (f_spread77 b S))))
set_option maxRecDepth 4000 in
theorem hd_X4_staff (L : Nat) (xs : Nat → Int32) {R : v_Rf} (hW : z_W R) {c : Nat} (hL : R 50 2 = some (c + 1)) (hc : z_cd c) (a : Int32) (b : Int32) (H27 : Int32 → v_Sf → Prop) (H46 : Int32 → Int32 → v_Sf → Prop) (K : v_Sf → Prop) (k27 : ∀ (x4 : Int32) (S : v_Sf), H27 x4 S → D_X4_staff_27 c H27 H46 K x4 S) (k46 : ∀ (x4 : Int32) (x5 : Int32) (S : v_Sf), H46 x4 x5 S → D_X4_staff_46 c H27 H46 K x4 x5 S) : ∀ n, (∀ (d : Nat) (j2 : Int32) (j3 : Int32) (x4 : Int32) (S : v_Sf), H27 x4 S → u_P L xs n d m_X4_staff 27 [(0, .ref 77), (1, .ref 2), (2, .int j2), (3, .int j3), (4, .int x4)] [] S R (z_V R K)) ∧ (∀ (d : Nat) (j2 : Int32) (j3 : Int32) (j5 : Int32) (x4 : Int32) (S : v_Sf), H27 x4 S → u_P L xs n d m_X4_staff 27 [(0, .ref 77), (1, .ref 2), (2, .int j2), (3, .int j3), (4, .int x4), (5, .int j5)] [] S R (z_V R K)) ∧ (∀ (d : Nat) (j2 : Int32) (j3 : Int32) (x4 : Int32) (x5 : Int32) (S : v_Sf), H46 x4 x5 S → u_P L xs n d m_X4_staff 46 [(0, .ref 77), (1, .ref 2), (2, .int j2), (3, .int j3), (4, .int x4), (5, .int x5)] [] S R (z_V R K)) := by
  intro n
  induction n using Nat.strongRecOn with
  | ind n ih =>
    refine ⟨?_, ?_, ?_⟩
    · intro d j2 j3 x4 S hD
      have hD := k27 x4 S hD
      unfold D_X4_staff_27 at hD
      show u_P L xs n d m_X4_staff 27 [(0, .ref 77), (1, .ref 2), (2, .int j2), (3, .int j3), (4, .int x4)] [] S R _
      refine u_st1 rfl (fun _ => rfl) (fun m hm => ?_)
      refine u_st rfl (fun _ => rfl) ?_
      show u_P L xs m d m_X4_staff 30 [(0, .ref 77), (1, .ref 2), (2, .int j2), (3, .int j3), (4, .int x4)] [.ref 77, .int x4] S R _
      refine u_getE (v := S 76 4) rfl rfl rfl rfl ?_
      show u_P L xs m d m_X4_staff 33 [(0, .ref 77), (1, .ref 2), (2, .int j2), (3, .int j3), (4, .int x4)] [.int (S 76 4), .int x4] S R _
      refine u_ic_ge rfl (fun h1 => ?_) (fun h1 => ?_)
      · have hD := hD.1 h1
        show u_P L xs m d m_X4_staff 109 [(0, .ref 77), (1, .ref 2), (2, .int j2), (3, .int j3), (4, .int x4)] [] S R _
        refine u_st rfl (fun _ => rfl) ?_
        refine u_st rfl (fun _ => rfl) ?_
        show u_P L xs m d m_X4_staff 113 [(0, .ref 77), (1, .ref 2), (2, .int j2), (3, .int j3), (4, .int x4)] [.int (Int32.ofInt 1000), .ref 77] S R _
        refine u_put rfl rfl rfl ?_
        refine u_st rfl (fun _ => rfl) ?_
        refine u_st rfl (fun _ => rfl) ?_
        refine u_st rfl (fun _ => rfl) ?_
        refine u_st rfl (fun _ => rfl) ?_
        show u_P L xs m d m_X4_staff 120 [(0, .ref 77), (1, .ref 2), (2, .int j2), (3, .int j3), (4, .int x4)] [.int (Int32.ofInt 0), .int (Int32.ofInt 0), .int (Int32.ofInt 0), .ref 77] (z_s S 76 12 (Int32.ofInt 1000)) R _
        refine u_cv (rest := []) rfl (by decide) mt_X4_staffFrom rfl rfl rfl rfl (Nat.le_of_ble_eq_true rfl) (Nat.le_of_ble_eq_true rfl) (Nat.le_of_ble_eq_true rfl) (fun d' => c_staff L xs m d' (Int32.ofInt 0) (Int32.ofInt 0) (Int32.ofInt 0) (by decide) (z_s S 76 12 (Int32.ofInt 1000)) R) ?_
        rintro _ _ _ ⟨rfl, rfl, rfl⟩
        show u_P L xs m d m_X4_staff 123 [(0, .ref 77), (1, .ref 2), (2, .int j2), (3, .int j3), (4, .int x4)] [] (g_staff (Int32.ofInt 0) (Int32.ofInt 0) (Int32.ofInt 0) (z_s S 76 12 (Int32.ofInt 1000))) R _
        exact u_ret rfl rfl ⟨rfl, rfl, hD⟩
      · have hD := hD.2 h1
        show u_P L xs m d m_X4_staff 36 [(0, .ref 77), (1, .ref 2), (2, .int j2), (3, .int j3), (4, .int x4)] [] S R _
        refine u_st rfl (fun _ => rfl) ?_
        refine u_st rfl (fun _ => rfl) ?_
        show u_P L xs m d m_X4_staff 40 [(0, .ref 77), (1, .ref 2), (2, .int j2), (3, .int j3), (4, .int x4)] [.int (Int32.ofInt 8), .int x4] S R _
        refine u_ic_ge rfl (fun h2 => ?_) (fun h2 => ?_)
        · have hD := hD.1 h2
          show u_P L xs m d m_X4_staff 109 [(0, .ref 77), (1, .ref 2), (2, .int j2), (3, .int j3), (4, .int x4)] [] S R _
          refine u_st rfl (fun _ => rfl) ?_
          refine u_st rfl (fun _ => rfl) ?_
          show u_P L xs m d m_X4_staff 113 [(0, .ref 77), (1, .ref 2), (2, .int j2), (3, .int j3), (4, .int x4)] [.int (Int32.ofInt 1000), .ref 77] S R _
          refine u_put rfl rfl rfl ?_
          refine u_st rfl (fun _ => rfl) ?_
          refine u_st rfl (fun _ => rfl) ?_
          refine u_st rfl (fun _ => rfl) ?_
          refine u_st rfl (fun _ => rfl) ?_
          show u_P L xs m d m_X4_staff 120 [(0, .ref 77), (1, .ref 2), (2, .int j2), (3, .int j3), (4, .int x4)] [.int (Int32.ofInt 0), .int (Int32.ofInt 0), .int (Int32.ofInt 0), .ref 77] (z_s S 76 12 (Int32.ofInt 1000)) R _
          refine u_cv (rest := []) rfl (by decide) mt_X4_staffFrom rfl rfl rfl rfl (Nat.le_of_ble_eq_true rfl) (Nat.le_of_ble_eq_true rfl) (Nat.le_of_ble_eq_true rfl) (fun d' => c_staff L xs m d' (Int32.ofInt 0) (Int32.ofInt 0) (Int32.ofInt 0) (by decide) (z_s S 76 12 (Int32.ofInt 1000)) R) ?_
          rintro _ _ _ ⟨rfl, rfl, rfl⟩
          show u_P L xs m d m_X4_staff 123 [(0, .ref 77), (1, .ref 2), (2, .int j2), (3, .int j3), (4, .int x4)] [] (g_staff (Int32.ofInt 0) (Int32.ofInt 0) (Int32.ofInt 0) (z_s S 76 12 (Int32.ofInt 1000))) R _
          exact u_ret rfl rfl ⟨rfl, rfl, hD⟩
        · have hD := hD.2 h2
          show u_P L xs m d m_X4_staff 43 [(0, .ref 77), (1, .ref 2), (2, .int j2), (3, .int j3), (4, .int x4)] [] S R _
          refine u_st rfl (fun _ => rfl) ?_
          refine u_st rfl (fun _ => rfl) ?_
          refine u_lc (b := [(0, .ref 77), (1, .ref 2), (2, .int j2), (3, .int j3), (4, .int x4), (5, .int (Int32.ofInt 0))]) (show ([5, 0, 1, 2, 3, 4] : List Nat).Nodup by decide) (show ([0, 1, 2, 3, 4, 5] : List Nat).Nodup by decide) (fun i => match i with | 0 => rfl | 1 => rfl | 2 => rfl | 3 => rfl | 4 => rfl | 5 => rfl | _ + 6 => rfl) ?_
          exact (ih m hm).2.2 d j2 j3 x4 (Int32.ofInt 0) S hD
    · intro d j2 j3 j5 x4 S hD
      have hD := k27 x4 S hD
      unfold D_X4_staff_27 at hD
      show u_P L xs n d m_X4_staff 27 [(0, .ref 77), (1, .ref 2), (2, .int j2), (3, .int j3), (4, .int x4), (5, .int j5)] [] S R _
      refine u_st1 rfl (fun _ => rfl) (fun m hm => ?_)
      refine u_st rfl (fun _ => rfl) ?_
      show u_P L xs m d m_X4_staff 30 [(0, .ref 77), (1, .ref 2), (2, .int j2), (3, .int j3), (4, .int x4), (5, .int j5)] [.ref 77, .int x4] S R _
      refine u_getE (v := S 76 4) rfl rfl rfl rfl ?_
      show u_P L xs m d m_X4_staff 33 [(0, .ref 77), (1, .ref 2), (2, .int j2), (3, .int j3), (4, .int x4), (5, .int j5)] [.int (S 76 4), .int x4] S R _
      refine u_ic_ge rfl (fun h1 => ?_) (fun h1 => ?_)
      · have hD := hD.1 h1
        show u_P L xs m d m_X4_staff 109 [(0, .ref 77), (1, .ref 2), (2, .int j2), (3, .int j3), (4, .int x4), (5, .int j5)] [] S R _
        refine u_st rfl (fun _ => rfl) ?_
        refine u_st rfl (fun _ => rfl) ?_
        show u_P L xs m d m_X4_staff 113 [(0, .ref 77), (1, .ref 2), (2, .int j2), (3, .int j3), (4, .int x4), (5, .int j5)] [.int (Int32.ofInt 1000), .ref 77] S R _
        refine u_put rfl rfl rfl ?_
        refine u_st rfl (fun _ => rfl) ?_
        refine u_st rfl (fun _ => rfl) ?_
        refine u_st rfl (fun _ => rfl) ?_
        refine u_st rfl (fun _ => rfl) ?_
        show u_P L xs m d m_X4_staff 120 [(0, .ref 77), (1, .ref 2), (2, .int j2), (3, .int j3), (4, .int x4), (5, .int j5)] [.int (Int32.ofInt 0), .int (Int32.ofInt 0), .int (Int32.ofInt 0), .ref 77] (z_s S 76 12 (Int32.ofInt 1000)) R _
        refine u_cv (rest := []) rfl (by decide) mt_X4_staffFrom rfl rfl rfl rfl (Nat.le_of_ble_eq_true rfl) (Nat.le_of_ble_eq_true rfl) (Nat.le_of_ble_eq_true rfl) (fun d' => c_staff L xs m d' (Int32.ofInt 0) (Int32.ofInt 0) (Int32.ofInt 0) (by decide) (z_s S 76 12 (Int32.ofInt 1000)) R) ?_
        rintro _ _ _ ⟨rfl, rfl, rfl⟩
        show u_P L xs m d m_X4_staff 123 [(0, .ref 77), (1, .ref 2), (2, .int j2), (3, .int j3), (4, .int x4), (5, .int j5)] [] (g_staff (Int32.ofInt 0) (Int32.ofInt 0) (Int32.ofInt 0) (z_s S 76 12 (Int32.ofInt 1000))) R _
        exact u_ret rfl rfl ⟨rfl, rfl, hD⟩
      · have hD := hD.2 h1
        show u_P L xs m d m_X4_staff 36 [(0, .ref 77), (1, .ref 2), (2, .int j2), (3, .int j3), (4, .int x4), (5, .int j5)] [] S R _
        refine u_st rfl (fun _ => rfl) ?_
        refine u_st rfl (fun _ => rfl) ?_
        show u_P L xs m d m_X4_staff 40 [(0, .ref 77), (1, .ref 2), (2, .int j2), (3, .int j3), (4, .int x4), (5, .int j5)] [.int (Int32.ofInt 8), .int x4] S R _
        refine u_ic_ge rfl (fun h2 => ?_) (fun h2 => ?_)
        · have hD := hD.1 h2
          show u_P L xs m d m_X4_staff 109 [(0, .ref 77), (1, .ref 2), (2, .int j2), (3, .int j3), (4, .int x4), (5, .int j5)] [] S R _
          refine u_st rfl (fun _ => rfl) ?_
          refine u_st rfl (fun _ => rfl) ?_
          show u_P L xs m d m_X4_staff 113 [(0, .ref 77), (1, .ref 2), (2, .int j2), (3, .int j3), (4, .int x4), (5, .int j5)] [.int (Int32.ofInt 1000), .ref 77] S R _
          refine u_put rfl rfl rfl ?_
          refine u_st rfl (fun _ => rfl) ?_
          refine u_st rfl (fun _ => rfl) ?_
          refine u_st rfl (fun _ => rfl) ?_
          refine u_st rfl (fun _ => rfl) ?_
          show u_P L xs m d m_X4_staff 120 [(0, .ref 77), (1, .ref 2), (2, .int j2), (3, .int j3), (4, .int x4), (5, .int j5)] [.int (Int32.ofInt 0), .int (Int32.ofInt 0), .int (Int32.ofInt 0), .ref 77] (z_s S 76 12 (Int32.ofInt 1000)) R _
          refine u_cv (rest := []) rfl (by decide) mt_X4_staffFrom rfl rfl rfl rfl (Nat.le_of_ble_eq_true rfl) (Nat.le_of_ble_eq_true rfl) (Nat.le_of_ble_eq_true rfl) (fun d' => c_staff L xs m d' (Int32.ofInt 0) (Int32.ofInt 0) (Int32.ofInt 0) (by decide) (z_s S 76 12 (Int32.ofInt 1000)) R) ?_
          rintro _ _ _ ⟨rfl, rfl, rfl⟩
          show u_P L xs m d m_X4_staff 123 [(0, .ref 77), (1, .ref 2), (2, .int j2), (3, .int j3), (4, .int x4), (5, .int j5)] [] (g_staff (Int32.ofInt 0) (Int32.ofInt 0) (Int32.ofInt 0) (z_s S 76 12 (Int32.ofInt 1000))) R _
          exact u_ret rfl rfl ⟨rfl, rfl, hD⟩
        · have hD := hD.2 h2
          show u_P L xs m d m_X4_staff 43 [(0, .ref 77), (1, .ref 2), (2, .int j2), (3, .int j3), (4, .int x4), (5, .int j5)] [] S R _
          refine u_st rfl (fun _ => rfl) ?_
          refine u_st rfl (fun _ => rfl) ?_
          refine u_lc (b := [(0, .ref 77), (1, .ref 2), (2, .int j2), (3, .int j3), (4, .int x4), (5, .int (Int32.ofInt 0))]) (show ([5, 0, 1, 2, 3, 4] : List Nat).Nodup by decide) (show ([0, 1, 2, 3, 4, 5] : List Nat).Nodup by decide) (fun i => match i with | 0 => rfl | 1 => rfl | 2 => rfl | 3 => rfl | 4 => rfl | 5 => rfl | _ + 6 => rfl) ?_
          exact (ih m hm).2.2 d j2 j3 x4 (Int32.ofInt 0) S hD
    · intro d j2 j3 x4 x5 S hD
      have hD := k46 x4 x5 S hD
      unfold D_X4_staff_46 at hD
      show u_P L xs n d m_X4_staff 46 [(0, .ref 77), (1, .ref 2), (2, .int j2), (3, .int j3), (4, .int x4), (5, .int x5)] [] S R _
      refine u_st1 rfl (fun _ => rfl) (fun m hm => ?_)
      refine u_st rfl (fun _ => rfl) ?_
      show u_P L xs m d m_X4_staff 49 [(0, .ref 77), (1, .ref 2), (2, .int j2), (3, .int j3), (4, .int x4), (5, .int x5)] [.ref 77, .int x5] S R _
      refine u_getE (v := S 76 5) rfl rfl rfl rfl ?_
      show u_P L xs m d m_X4_staff 52 [(0, .ref 77), (1, .ref 2), (2, .int j2), (3, .int j3), (4, .int x4), (5, .int x5)] [.int (S 76 5), .int x5] S R _
      refine u_ic_ge rfl (fun h1 => ?_) (fun h1 => ?_)
      · have hD := hD.1 h1
        show u_P L xs m d m_X4_staff 103 [(0, .ref 77), (1, .ref 2), (2, .int j2), (3, .int j3), (4, .int x4), (5, .int x5)] [] S R _
        refine u_st rfl (fun _ => rfl) ?_
        refine u_st rfl (fun _ => rfl) ?_
        refine u_lc (b := [(0, .ref 77), (1, .ref 2), (2, .int j2), (3, .int j3), (4, .int (x4 + (Int32.ofInt 1))), (5, .int x5)]) (show ([4, 0, 1, 2, 3, 5] : List Nat).Nodup by decide) (show ([0, 1, 2, 3, 4, 5] : List Nat).Nodup by decide) (fun i => match i with | 0 => rfl | 1 => rfl | 2 => rfl | 3 => rfl | 4 => rfl | 5 => rfl | _ + 6 => rfl) ?_
        exact (ih m hm).2.1 d j2 j3 x5 (x4 + (Int32.ofInt 1)) S hD
      · have hD := hD.2 h1
        show u_P L xs m d m_X4_staff 55 [(0, .ref 77), (1, .ref 2), (2, .int j2), (3, .int j3), (4, .int x4), (5, .int x5)] [] S R _
        refine u_st rfl (fun _ => rfl) ?_
        refine u_st rfl (fun _ => rfl) ?_
        show u_P L xs m d m_X4_staff 59 [(0, .ref 77), (1, .ref 2), (2, .int j2), (3, .int j3), (4, .int x4), (5, .int x5)] [.int (Int32.ofInt 8), .int x5] S R _
        refine u_ic_ge rfl (fun h2 => ?_) (fun h2 => ?_)
        · have hD := hD.1 h2
          show u_P L xs m d m_X4_staff 103 [(0, .ref 77), (1, .ref 2), (2, .int j2), (3, .int j3), (4, .int x4), (5, .int x5)] [] S R _
          refine u_st rfl (fun _ => rfl) ?_
          refine u_st rfl (fun _ => rfl) ?_
          refine u_lc (b := [(0, .ref 77), (1, .ref 2), (2, .int j2), (3, .int j3), (4, .int (x4 + (Int32.ofInt 1))), (5, .int x5)]) (show ([4, 0, 1, 2, 3, 5] : List Nat).Nodup by decide) (show ([0, 1, 2, 3, 4, 5] : List Nat).Nodup by decide) (fun i => match i with | 0 => rfl | 1 => rfl | 2 => rfl | 3 => rfl | 4 => rfl | 5 => rfl | _ + 6 => rfl) ?_
          exact (ih m hm).2.1 d j2 j3 x5 (x4 + (Int32.ofInt 1)) S hD
        · have hD := hD.2 h2
          show u_P L xs m d m_X4_staff 62 [(0, .ref 77), (1, .ref 2), (2, .int j2), (3, .int j3), (4, .int x4), (5, .int x5)] [] S R _
          refine u_st rfl (fun _ => rfl) ?_
          show u_P L xs m d m_X4_staff 63 [(0, .ref 77), (1, .ref 2), (2, .int j2), (3, .int j3), (4, .int x4), (5, .int x5)] [.ref 77] S R _
          refine u_getr rfl rfl rfl ?_
          refine u_st rfl (fun _ => rfl) ?_
          refine u_st rfl (fun _ => rfl) ?_
          refine u_st rfl (fun _ => rfl) ?_
          refine u_st rfl (fun _ => rfl) ?_
          refine u_st rfl (fun _ => rfl) ?_
          refine u_st rfl (fun _ => rfl) ?_
          show u_P L xs m d m_X4_staff 75 [(0, .ref 77), (1, .ref 2), (2, .int j2), (3, .int j3), (4, .int x4), (5, .int x5)] [.ref 77, .int ((x4 * (Int32.ofInt 8)) + x5), .ref 83] S R _
          refine u_getr rfl rfl rfl ?_
          refine u_st rfl (fun _ => rfl) ?_
          refine u_st rfl (fun _ => rfl) ?_
          show u_P L xs m d m_X4_staff 80 [(0, .ref 77), (1, .ref 2), (2, .int j2), (3, .int j3), (4, .int x4), (5, .int x5)] [.ref 77, .ref 2, .ref 51, .int ((x4 * (Int32.ofInt 8)) + x5), .ref 83] S R _
          refine u_getr rfl rfl rfl ?_
          refine u_st rfl (fun _ => rfl) ?_
          show u_P L xs m d m_X4_staff 85 [(0, .ref 77), (1, .ref 2), (2, .int j2), (3, .int j3), (4, .int x4), (5, .int x5)] [.int x4, .ref 78, .ref 2, .ref 51, .int ((x4 * (Int32.ofInt 8)) + x5), .ref 83] S R _
          refine u_ialdE (v := S 77 x4.toInt.toNat) rfl rfl rfl (fun b31 b32 => ?_)
          have hD := hD b31 b32
          show u_P L xs m d m_X4_staff 86 [(0, .ref 77), (1, .ref 2), (2, .int j2), (3, .int j3), (4, .int x4), (5, .int x5)] [.int (S 77 x4.toInt.toNat), .ref 2, .ref 51, .int ((x4 * (Int32.ofInt 8)) + x5), .ref 83] S R _
          refine u_st rfl (fun _ => rfl) ?_
          show u_P L xs m d m_X4_staff 87 [(0, .ref 77), (1, .ref 2), (2, .int j2), (3, .int j3), (4, .int x4), (5, .int x5)] [.ref 77, .int (S 77 x4.toInt.toNat), .ref 2, .ref 51, .int ((x4 * (Int32.ofInt 8)) + x5), .ref 83] S R _
          refine u_getr rfl rfl rfl ?_
          refine u_st rfl (fun _ => rfl) ?_
          show u_P L xs m d m_X4_staff 92 [(0, .ref 77), (1, .ref 2), (2, .int j2), (3, .int j3), (4, .int x4), (5, .int x5)] [.int x5, .ref 79, .int (S 77 x4.toInt.toNat), .ref 2, .ref 51, .int ((x4 * (Int32.ofInt 8)) + x5), .ref 83] S R _
          refine u_ialdE (v := S 78 x5.toInt.toNat) rfl rfl rfl (fun b41 b42 => ?_)
          have hD := hD b41 b42
          show u_P L xs m d m_X4_staff 93 [(0, .ref 77), (1, .ref 2), (2, .int j2), (3, .int j3), (4, .int x4), (5, .int x5)] [.int (S 78 x5.toInt.toNat), .int (S 77 x4.toInt.toNat), .ref 2, .ref 51, .int ((x4 * (Int32.ofInt 8)) + x5), .ref 83] S R _
          refine u_cv (rest := [.int ((x4 * (Int32.ofInt 8)) + x5), .ref 83]) rfl (by decide) mt_X3_illness rfl rfl rfl rfl (Nat.le_of_ble_eq_true rfl) (Nat.le_of_ble_eq_true rfl) (Nat.le_of_ble_eq_true rfl) (fun d' => c_X3_illness L xs m d' hW hL hc 1 (Or.inl rfl) (S 77 x4.toInt.toNat) (S 78 x5.toInt.toNat) S) ?_
          rintro _ _ _ ⟨_, rfl, rfl, rfl, rfl⟩
          show u_P L xs m d m_X4_staff 96 [(0, .ref 77), (1, .ref 2), (2, .int j2), (3, .int j3), (4, .int x4), (5, .int x5)] [.int (f_X3_illness c 1 (S 77 x4.toInt.toNat) (S 78 x5.toInt.toNat) S), .int ((x4 * (Int32.ofInt 8)) + x5), .ref 83] (g_X3_illness c 1 (S 77 x4.toInt.toNat) (S 78 x5.toInt.toNat) S) R _
          refine u_iast rfl rfl (fun b51 b52 => ?_)
          have hD := hD b51 b52
          show u_P L xs m d m_X4_staff 97 [(0, .ref 77), (1, .ref 2), (2, .int j2), (3, .int j3), (4, .int x4), (5, .int x5)] [] (z_s (g_X3_illness c 1 (S 77 x4.toInt.toNat) (S 78 x5.toInt.toNat) S) 82 (((x4 * (Int32.ofInt 8)) + x5).toInt.toNat) (f_X3_illness c 1 (S 77 x4.toInt.toNat) (S 78 x5.toInt.toNat) S)) R _
          refine u_st rfl (fun _ => rfl) ?_
          refine u_st rfl (fun _ => rfl) ?_
          refine u_lc (b := [(0, .ref 77), (1, .ref 2), (2, .int j2), (3, .int j3), (4, .int x4), (5, .int (x5 + (Int32.ofInt 1)))]) (show ([5, 0, 1, 2, 3, 4] : List Nat).Nodup by decide) (show ([0, 1, 2, 3, 4, 5] : List Nat).Nodup by decide) (fun i => match i with | 0 => rfl | 1 => rfl | 2 => rfl | 3 => rfl | 4 => rfl | 5 => rfl | _ + 6 => rfl) ?_
          exact (ih m hm).2.2 d j2 j3 x4 (x5 + (Int32.ofInt 1)) (z_s (g_X3_illness c 1 (S 77 x4.toInt.toNat) (S 78 x5.toInt.toNat) S) 82 (((x4 * (Int32.ofInt 8)) + x5).toInt.toNat) (f_X3_illness c 1 (S 77 x4.toInt.toNat) (S 78 x5.toInt.toNat) S)) hD
set_option maxRecDepth 4000 in
theorem w_X4_staff (L : Nat) (xs : Nat → Int32) {R : v_Rf} (hW : z_W R) {c : Nat} (hL : R 50 2 = some (c + 1)) (hc : z_cd c) (a : Int32) (b : Int32) (H27 : Int32 → v_Sf → Prop) (H46 : Int32 → Int32 → v_Sf → Prop) (K : v_Sf → Prop) (k27 : ∀ (x4 : Int32) (S : v_Sf), H27 x4 S → D_X4_staff_27 c H27 H46 K x4 S) (k46 : ∀ (x4 : Int32) (x5 : Int32) (S : v_Sf), H46 x4 x5 S → D_X4_staff_46 c H27 H46 K x4 x5 S) (n d : Nat) (S : v_Sf) (hD : D_X4_staff c a b H27 H46 K S) : u_P L xs n d m_X4_staff 0 (lv_args 0 [.ref 77, .ref 2, .int a, .int b]) [] S R (z_V R K) := by
  unfold D_X4_staff at hD
  show u_P L xs n d m_X4_staff 0 [(0, .ref 77), (1, .ref 2), (2, .int a), (3, .int b)] [] S R _
  refine u_st rfl (fun _ => rfl) ?_
  refine u_st rfl (fun _ => rfl) ?_
  refine u_st rfl (fun _ => rfl) ?_
  show u_P L xs n d m_X4_staff 3 [(0, .ref 77), (1, .ref 2), (2, .int a), (3, .int b)] [.ref 77, .int b, .ref 77] S R _
  refine u_getr rfl rfl rfl ?_
  show u_P L xs n d m_X4_staff 6 [(0, .ref 77), (1, .ref 2), (2, .int a), (3, .int b)] [.ref 78, .int b, .ref 77] S R _
  refine u_cs (ac := [.int b, .ref 78]) (rest := [.ref 77]) rfl (by decide) mt_X4_spread (fun _ => rfl) (Nat.le_of_ble_eq_true rfl) (Nat.le_of_ble_eq_true rfl) (fun d' => c_spread77 L xs n d' b S R) ?_
  rintro _ _ _ ⟨_, rfl, rfl, rfl, rfl⟩
  show u_P L xs n d m_X4_staff 9 [(0, .ref 77), (1, .ref 2), (2, .int a), (3, .int b)] [.int (f_spread77 b S), .ref 77] (g_spread77 b S) R _
  refine u_put rfl rfl rfl ?_
  refine u_st rfl (fun _ => rfl) ?_
  refine u_st rfl (fun _ => rfl) ?_
  refine u_st rfl (fun _ => rfl) ?_
  show u_P L xs n d m_X4_staff 15 [(0, .ref 77), (1, .ref 2), (2, .int a), (3, .int b)] [.ref 77, .int a, .ref 77] (z_s (g_spread77 b S) 76 4 (f_spread77 b S)) R _
  refine u_getr rfl rfl rfl ?_
  show u_P L xs n d m_X4_staff 18 [(0, .ref 77), (1, .ref 2), (2, .int a), (3, .int b)] [.ref 79, .int a, .ref 77] (z_s (g_spread77 b S) 76 4 (f_spread77 b S)) R _
  refine u_cs (ac := [.int a, .ref 79]) (rest := [.ref 77]) rfl (by decide) mt_X4_spread (fun _ => rfl) (Nat.le_of_ble_eq_true rfl) (Nat.le_of_ble_eq_true rfl) (fun d' => c_spread78 L xs n d' a (z_s (g_spread77 b S) 76 4 (f_spread77 b S)) R) ?_
  rintro _ _ _ ⟨_, rfl, rfl, rfl, rfl⟩
  show u_P L xs n d m_X4_staff 21 [(0, .ref 77), (1, .ref 2), (2, .int a), (3, .int b)] [.int (f_spread78 a (z_s (g_spread77 b S) 76 4 (f_spread77 b S))), .ref 77] (g_spread78 a (z_s (g_spread77 b S) 76 4 (f_spread77 b S))) R _
  refine u_put rfl rfl rfl ?_
  refine u_st rfl (fun _ => rfl) ?_
  refine u_st rfl (fun _ => rfl) ?_
  refine u_lc (b := [(0, .ref 77), (1, .ref 2), (2, .int a), (3, .int b), (4, .int (Int32.ofInt 0))]) (show ([4, 0, 1, 2, 3] : List Nat).Nodup by decide) (show ([0, 1, 2, 3, 4] : List Nat).Nodup by decide) (fun i => match i with | 0 => rfl | 1 => rfl | 2 => rfl | 3 => rfl | 4 => rfl | _ + 5 => rfl) ?_
  exact (hd_X4_staff L xs hW hL hc a b H27 H46 K k27 k46 n).1 d a b (Int32.ofInt 0) (z_s (g_spread78 a (z_s (g_spread77 b S) 76 4 (f_spread77 b S))) 76 5 (f_spread78 a (z_s (g_spread77 b S) 76 4 (f_spread77 b S)))) hD
noncomputable def r_X4_staff_46 (c : Nat) (κ27 : v_Sf → v_Sf) (k27 : Nat) : Nat → Nat → v_Sf → v_Sf
  | 0, k46, S => κ27 S
  | r + 1, k46, S => (if (S 76 5) ≤ (z_i k46) then κ27 S else (if (Int32.ofInt 8) ≤ (z_i k46) then κ27 S else r_X4_staff_46 c κ27 k27 r (k46 + 1) (z_s (g_X3_illness c 1 (S 77 (z_i k27).toInt.toNat) (S 78 (z_i k46).toInt.toNat) S) 82 ((((z_i k27) * (Int32.ofInt 8)) + (z_i k46)).toInt.toNat) (f_X3_illness c 1 (S 77 (z_i k27).toInt.toNat) (S 78 (z_i k46).toInt.toNat) S))))
theorem r8_X4_staff_46 {c : Nat} {κ27 : v_Sf → v_Sf} {k27 : Nat} {k : Nat} (h : 8 ≤ k) (h2 : k ≤ 8) {S : v_Sf} : r_X4_staff_46 c κ27 k27 0 k S = r_X4_staff_46 c κ27 k27 (0 + 1) k S := by
  rw [r_X4_staff_46, r_X4_staff_46]
  by_cases q : (S 76 5) ≤ (z_i k)
  · rw [if_pos q]
  · rw [if_neg q, if_pos (z_8le h h2)]
noncomputable def r_X4_staff_27 (c : Nat) : Nat → Nat → v_Sf → v_Sf
  | 0, k27, S => g_staff (Int32.ofInt 0) (Int32.ofInt 0) (Int32.ofInt 0) (z_s S 76 12 (Int32.ofInt 1000))
  | r + 1, k27, S => (if (S 76 4) ≤ (z_i k27) then g_staff (Int32.ofInt 0) (Int32.ofInt 0) (Int32.ofInt 0) (z_s S 76 12 (Int32.ofInt 1000)) else (if (Int32.ofInt 8) ≤ (z_i k27) then g_staff (Int32.ofInt 0) (Int32.ofInt 0) (Int32.ofInt 0) (z_s S 76 12 (Int32.ofInt 1000)) else r_X4_staff_46 c (fun S => r_X4_staff_27 c r (k27 + 1) S) k27 (8 - 0) 0 S))
theorem r8_X4_staff_27 {c : Nat} {k : Nat} (h : 8 ≤ k) (h2 : k ≤ 8) {S : v_Sf} : r_X4_staff_27 c 0 k S = r_X4_staff_27 c (0 + 1) k S := by
  rw [r_X4_staff_27, r_X4_staff_27]
  by_cases q : (S 76 4) ≤ (z_i k)
  · rw [if_pos q]
  · rw [if_neg q, if_pos (z_8le h h2)]
noncomputable def F_X4_staff (c : Nat) (a : Int32) (b : Int32) (S : v_Sf) : v_Sf := r_X4_staff_27 c (8 - 0) 0 (z_s (g_spread78 a (z_s (g_spread77 b S) 76 4 (f_spread77 b S))) 76 5 (f_spread78 a (z_s (g_spread77 b S) 76 4 (f_spread77 b S))))
noncomputable def g_X4_staff (c : Nat) (a : Int32) (b : Int32) (S : v_Sf) : v_Sf := F_X4_staff c a b S
theorem c_X4_staff (L : Nat) (xs : Nat → Int32) (n d : Nat) {R : v_Rf} (hW : z_W R) {c : Nat} (hL : R 50 2 = some (c + 1)) (hc : z_cd c) (a : Int32) (b : Int32) (S : v_Sf) : u_P L xs n d m_X4_staff 0 (lv_args 0 [.ref 77, .ref 2, .int a, .int b]) [] S R (z_V R (fun S1 => g_X4_staff c a b S = S1)) := by
  refine w_X4_staff L xs hW hL hc a b (fun y4 T => ∃ (k27 : Nat), k27 ≤ 8 ∧ z_i k27 = y4 ∧ r_X4_staff_27 c (8 - k27) k27 T = F_X4_staff c a b S) (fun y4 y5 T => ∃ (k27 k46 : Nat), k46 ≤ 8 ∧ z_i k46 = y5 ∧ k27 ≤ 7 ∧ k27 ≤ 7 ∧ z_i k27 = y4 ∧ r_X4_staff_46 c (fun V => r_X4_staff_27 c (8 - (k27 + 1)) (k27 + 1) V) k27 (8 - k46) k46 T = F_X4_staff c a b S) (fun S1 => g_X4_staff c a b S = S1) ?_ ?_ n d S ?_
  · rintro _ S1 ⟨k27, hkk, rfl, e⟩
    unfold D_X4_staff_27
    rcases Nat.lt_or_ge k27 (8) with hk | hk
    · rw [show 8 - k27 = (8 - (k27 + 1)) + 1 by omega, r_X4_staff_27] at e
      refine ⟨fun q1 => ?_, fun q1 => ?_⟩
      · rw [if_pos q1] at e
        exact e.symm
      · refine ⟨fun q2 => ?_, fun q2 => ?_⟩
        · rw [if_neg q1, if_pos q2] at e
          exact e.symm
        · rw [if_neg q1, if_neg q2] at e
          exact ⟨k27, 0, by omega, rfl, by omega, by omega, rfl, e⟩
    · rw [show 8 - k27 = 0 by omega, r8_X4_staff_27 hk hkk, r_X4_staff_27] at e
      refine ⟨fun q1 => ?_, fun q1 => ?_⟩
      · rw [if_pos q1] at e
        exact e.symm
      · refine ⟨fun q2 => ?_, fun q2 => ?_⟩
        · rw [if_neg q1, if_pos q2] at e
          exact e.symm
        · exact absurd (z_8le hk hkk) q2
  · rintro _ _ S1 ⟨k27, k46, hkk, rfl, hk27, hz27, rfl, e⟩
    unfold D_X4_staff_46
    rcases Nat.lt_or_ge k46 (8) with hk | hk
    · rw [show 8 - k46 = (8 - (k46 + 1)) + 1 by omega, r_X4_staff_46] at e
      refine ⟨fun q3 => ?_, fun q3 => ?_⟩
      · rw [if_pos q3] at e
        exact ⟨(k27 + 1), by omega, (z_i1 k27).symm, e⟩
      · refine ⟨fun q4 => ?_, fun q4 => ?_⟩
        · rw [if_neg q3, if_pos q4] at e
          exact ⟨(k27 + 1), by omega, (z_i1 k27).symm, e⟩
        · intro _ _
          intro _ _
          intro _ _
          rw [if_neg q3, if_neg q4] at e
          exact ⟨k27, (k46 + 1), by omega, (z_i1 k46).symm, by omega, by omega, rfl, e⟩
    · rw [show 8 - k46 = 0 by omega, r8_X4_staff_46 hk hkk, r_X4_staff_46] at e
      refine ⟨fun q3 => ?_, fun q3 => ?_⟩
      · rw [if_pos q3] at e
        exact ⟨(k27 + 1), by omega, (z_i1 k27).symm, e⟩
      · refine ⟨fun q4 => ?_, fun q4 => ?_⟩
        · rw [if_neg q3, if_pos q4] at e
          exact ⟨(k27 + 1), by omega, (z_i1 k27).symm, e⟩
        · exact absurd (z_8le hk hkk) q4
  · unfold D_X4_staff
    have e : r_X4_staff_27 c (8 - 0) 0 (z_s (g_spread78 a (z_s (g_spread77 b S) 76 4 (f_spread77 b S))) 76 5 (f_spread78 a (z_s (g_spread77 b S) 76 4 (f_spread77 b S)))) = F_X4_staff c a b S := by rw [F_X4_staff]
    exact ⟨0, by omega, rfl, e⟩
noncomputable abbrev m_X11_housed : g_M := (g_cn 11, yX11_housed, cX11_housed, 6, (some .int), g_look2 ttX11_housed)
set_option maxRecDepth 20000 in
theorem mt_X11_housed : g_mt 134 = some m_X11_housed := rfl
noncomputable def f_X11_housed (c : Nat) (a : Int32) (b : Int32) (i : Int32) (S : v_Sf) : Int32 := (if (f_X11_chosen a (Int32.ofInt 1) (Int32.ofInt 6) S) = 0 then Int32.ofInt (-1) else (if (f_X11_within b (Int32.ofInt 63)) = 0 then Int32.ofInt (-1) else (if (f_J6_bitCount_0f7a4 b) < (Int32.ofInt 1) then Int32.ofInt (-1) else (if (f_J6_bitCount_0f7a4 b) ≤ (Int32.ofInt 3) then (if i = (Int32.ofInt 20) then (if ¬ (f_X4_lodge c a b S) = 0 then (g_X4_lodge c a b S) 76 12 else Int32.ofInt (-2)) else (if ¬ (f_X11_isIn a i) = 0 then (if ¬ (f_X4_lodge c a b S) = 0 then f_X4_chosenFor a i (g_X4_lodge c a b S) else Int32.ofInt (-2)) else Int32.ofInt (-1))) else Int32.ofInt (-1)))))
noncomputable def g_X11_housed (c : Nat) (a : Int32) (b : Int32) (i : Int32) (S : v_Sf) : v_Sf := (if (f_X11_chosen a (Int32.ofInt 1) (Int32.ofInt 6) S) = 0 then S else (if (f_X11_within b (Int32.ofInt 63)) = 0 then S else (if (f_J6_bitCount_0f7a4 b) < (Int32.ofInt 1) then S else (if (f_J6_bitCount_0f7a4 b) ≤ (Int32.ofInt 3) then (if i = (Int32.ofInt 20) then g_X4_lodge c a b S else (if ¬ (f_X11_isIn a i) = 0 then g_X4_lodge c a b S else S)) else S))))
set_option maxRecDepth 4000 in
theorem c_X11_housed (L : Nat) (xs : Nat → Int32) (n d : Nat) {R : v_Rf} (hW : z_W R) {c : Nat} (hL : R 50 2 = some (c + 1)) (hc : z_cd c) (a : Int32) (b : Int32) (i : Int32) (S : v_Sf) : u_P L xs n d m_X11_housed 0 (lv_args 0 [.ref 1, .int a, .int b, .int i]) [] S R (z_Q R (fun v S1 => f_X11_housed c a b i S = v ∧ g_X11_housed c a b i S = S1)) := by
  show u_P L xs n d m_X11_housed 0 [(0, .ref 1), (1, .int a), (2, .int b), (3, .int i)] [] S R _
  refine u_st rfl (fun _ => rfl) ?_
  show u_P L xs n d m_X11_housed 1 [(0, .ref 1), (1, .int a), (2, .int b), (3, .int i)] [.int b] S R _
  refine u_cs (ac := [.int b]) (rest := []) rfl (by decide) mt_J6_bitCount_0f7a4 (fun _ => rfl) (Nat.le_of_ble_eq_true rfl) (Nat.le_of_ble_eq_true rfl) (fun d' => c_J6_bitCount_0f7a4 L xs n d' b S R) ?_
  rintro _ _ _ ⟨_, rfl, rfl, rfl, rfl⟩
  refine u_st rfl (fun _ => rfl) ?_
  refine u_st rfl (fun _ => rfl) ?_
  refine u_st rfl (fun _ => rfl) ?_
  refine u_st rfl (fun _ => rfl) ?_
  refine u_st rfl (fun _ => rfl) ?_
  show u_P L xs n d m_X11_housed 11 [(4, .int (f_J6_bitCount_0f7a4 b)), (0, .ref 1), (1, .int a), (2, .int b), (3, .int i)] [.int (Int32.ofInt 6), .int (Int32.ofInt 1), .int a, .ref 1] S R _
  refine u_cv (rest := []) rfl (by decide) mt_X11_chosen v_tyC rfl rfl rfl (Nat.le_of_ble_eq_true rfl) (Nat.le_of_ble_eq_true rfl) (Nat.le_of_ble_eq_true rfl) (fun d' => c_X11_chosen L xs n d' a (Int32.ofInt 1) (Int32.ofInt 6) S R) ?_
  rintro _ _ _ ⟨_, rfl, rfl, rfl, rfl⟩
  show u_P L xs n d m_X11_housed 14 [(4, .int (f_J6_bitCount_0f7a4 b)), (0, .ref 1), (1, .int a), (2, .int b), (3, .int i)] [.int (f_X11_chosen a (Int32.ofInt 1) (Int32.ofInt 6) S)] S R _
  refine u_if_eq rfl (fun h1 => ?_) (fun h1 => ?_)
  · show u_P L xs n d m_X11_housed 38 [(4, .int (f_J6_bitCount_0f7a4 b)), (0, .ref 1), (1, .int a), (2, .int b), (3, .int i)] [] S R _
    refine u_st rfl (fun _ => rfl) ?_
    show u_P L xs n d m_X11_housed 39 [(4, .int (f_J6_bitCount_0f7a4 b)), (0, .ref 1), (1, .int a), (2, .int b), (3, .int i)] [.int (Int32.ofInt (-1))] S R _
    exact u_ret rfl rfl ⟨_, rfl, rfl, by rw [f_X11_housed, if_pos h1], by rw [g_X11_housed, if_pos h1]⟩
  · show u_P L xs n d m_X11_housed 17 [(4, .int (f_J6_bitCount_0f7a4 b)), (0, .ref 1), (1, .int a), (2, .int b), (3, .int i)] [] S R _
    refine u_st rfl (fun _ => rfl) ?_
    refine u_st rfl (fun _ => rfl) ?_
    show u_P L xs n d m_X11_housed 20 [(4, .int (f_J6_bitCount_0f7a4 b)), (0, .ref 1), (1, .int a), (2, .int b), (3, .int i)] [.int (Int32.ofInt 63), .int b] S R _
    refine u_cs (ac := [.int b, .int (Int32.ofInt 63)]) (rest := []) rfl (by decide) mt_X11_within (fun _ => rfl) (Nat.le_of_ble_eq_true rfl) (Nat.le_of_ble_eq_true rfl) (fun d' => c_X11_within L xs n d' b (Int32.ofInt 63) S R) ?_
    rintro _ _ _ ⟨_, rfl, rfl, rfl, rfl⟩
    show u_P L xs n d m_X11_housed 23 [(4, .int (f_J6_bitCount_0f7a4 b)), (0, .ref 1), (1, .int a), (2, .int b), (3, .int i)] [.int (f_X11_within b (Int32.ofInt 63))] S R _
    refine u_if_eq rfl (fun h2 => ?_) (fun h2 => ?_)
    · show u_P L xs n d m_X11_housed 38 [(4, .int (f_J6_bitCount_0f7a4 b)), (0, .ref 1), (1, .int a), (2, .int b), (3, .int i)] [] S R _
      refine u_st rfl (fun _ => rfl) ?_
      show u_P L xs n d m_X11_housed 39 [(4, .int (f_J6_bitCount_0f7a4 b)), (0, .ref 1), (1, .int a), (2, .int b), (3, .int i)] [.int (Int32.ofInt (-1))] S R _
      exact u_ret rfl rfl ⟨_, rfl, rfl, by rw [f_X11_housed, if_neg h1, if_pos h2], by rw [g_X11_housed, if_neg h1, if_pos h2]⟩
    · show u_P L xs n d m_X11_housed 26 [(4, .int (f_J6_bitCount_0f7a4 b)), (0, .ref 1), (1, .int a), (2, .int b), (3, .int i)] [] S R _
      refine u_st rfl (fun _ => rfl) ?_
      refine u_st rfl (fun _ => rfl) ?_
      show u_P L xs n d m_X11_housed 29 [(4, .int (f_J6_bitCount_0f7a4 b)), (0, .ref 1), (1, .int a), (2, .int b), (3, .int i)] [.int (Int32.ofInt 1), .int (f_J6_bitCount_0f7a4 b)] S R _
      refine u_ic_lt rfl (fun h3 => ?_) (fun h3 => ?_)
      · show u_P L xs n d m_X11_housed 38 [(4, .int (f_J6_bitCount_0f7a4 b)), (0, .ref 1), (1, .int a), (2, .int b), (3, .int i)] [] S R _
        refine u_st rfl (fun _ => rfl) ?_
        show u_P L xs n d m_X11_housed 39 [(4, .int (f_J6_bitCount_0f7a4 b)), (0, .ref 1), (1, .int a), (2, .int b), (3, .int i)] [.int (Int32.ofInt (-1))] S R _
        exact u_ret rfl rfl ⟨_, rfl, rfl, by rw [f_X11_housed, if_neg h1, if_neg h2, if_pos h3], by rw [g_X11_housed, if_neg h1, if_neg h2, if_pos h3]⟩
      · show u_P L xs n d m_X11_housed 32 [(4, .int (f_J6_bitCount_0f7a4 b)), (0, .ref 1), (1, .int a), (2, .int b), (3, .int i)] [] S R _
        refine u_st rfl (fun _ => rfl) ?_
        refine u_st rfl (fun _ => rfl) ?_
        show u_P L xs n d m_X11_housed 35 [(4, .int (f_J6_bitCount_0f7a4 b)), (0, .ref 1), (1, .int a), (2, .int b), (3, .int i)] [.int (Int32.ofInt 3), .int (f_J6_bitCount_0f7a4 b)] S R _
        refine u_ic_le rfl (fun h4 => ?_) (fun h4 => ?_)
        · show u_P L xs n d m_X11_housed 40 [(4, .int (f_J6_bitCount_0f7a4 b)), (0, .ref 1), (1, .int a), (2, .int b), (3, .int i)] [] S R _
          refine u_st rfl (fun _ => rfl) ?_
          refine u_st rfl (fun _ => rfl) ?_
          show u_P L xs n d m_X11_housed 43 [(4, .int (f_J6_bitCount_0f7a4 b)), (0, .ref 1), (1, .int a), (2, .int b), (3, .int i)] [.int (Int32.ofInt 20), .int i] S R _
          refine u_ic_eq rfl (fun h5 => ?_) (fun h5 => ?_)
          · show u_P L xs n d m_X11_housed 56 [(4, .int (f_J6_bitCount_0f7a4 b)), (0, .ref 1), (1, .int a), (2, .int b), (3, .int i)] [] S R _
            refine u_st rfl (fun _ => rfl) ?_
            show u_P L xs n d m_X11_housed 57 [(4, .int (f_J6_bitCount_0f7a4 b)), (0, .ref 1), (1, .int a), (2, .int b), (3, .int i)] [.ref 1] S R _
            refine u_getr rfl v_tyC rfl ?_
            refine u_st rfl (fun _ => rfl) ?_
            show u_P L xs n d m_X11_housed 61 [(4, .int (f_J6_bitCount_0f7a4 b)), (0, .ref 1), (1, .int a), (2, .int b), (3, .int i)] [.ref 1, .ref 77] S R _
            refine u_getr rfl v_tyC rfl ?_
            refine u_st rfl (fun _ => rfl) ?_
            refine u_st rfl (fun _ => rfl) ?_
            show u_P L xs n d m_X11_housed 66 [(4, .int (f_J6_bitCount_0f7a4 b)), (0, .ref 1), (1, .int a), (2, .int b), (3, .int i)] [.int b, .int a, .ref 2, .ref 77] S R _
            refine u_cv (rest := []) rfl (by decide) mt_X4_lodge rfl rfl rfl rfl (Nat.le_of_ble_eq_true rfl) (Nat.le_of_ble_eq_true rfl) (Nat.le_of_ble_eq_true rfl) (fun d' => c_X4_lodge L xs n d' hW hL hc a b S) ?_
            rintro _ _ _ ⟨_, rfl, rfl, rfl, rfl⟩
            refine u_st rfl (fun _ => rfl) ?_
            refine u_st rfl (fun _ => rfl) ?_
            show u_P L xs n d m_X11_housed 73 [(5, .int (f_X4_lodge c a b S)), (4, .int (f_J6_bitCount_0f7a4 b)), (0, .ref 1), (1, .int a), (2, .int b), (3, .int i)] [.int (f_X4_lodge c a b S)] (g_X4_lodge c a b S) R _
            refine u_if_ne rfl (fun h6 => ?_) (fun h6 => ?_)
            · show u_P L xs n d m_X11_housed 79 [(5, .int (f_X4_lodge c a b S)), (4, .int (f_J6_bitCount_0f7a4 b)), (0, .ref 1), (1, .int a), (2, .int b), (3, .int i)] [] (g_X4_lodge c a b S) R _
              refine u_st rfl (fun _ => rfl) ?_
              refine u_st rfl (fun _ => rfl) ?_
              show u_P L xs n d m_X11_housed 82 [(5, .int (f_X4_lodge c a b S)), (4, .int (f_J6_bitCount_0f7a4 b)), (0, .ref 1), (1, .int a), (2, .int b), (3, .int i)] [.int (Int32.ofInt 20), .int i] (g_X4_lodge c a b S) R _
              refine u_ic_ne rfl (fun h7 => absurd h5 h7) (fun _ => ?_)
              show u_P L xs n d m_X11_housed 85 [(5, .int (f_X4_lodge c a b S)), (4, .int (f_J6_bitCount_0f7a4 b)), (0, .ref 1), (1, .int a), (2, .int b), (3, .int i)] [] (g_X4_lodge c a b S) R _
              refine u_st rfl (fun _ => rfl) ?_
              show u_P L xs n d m_X11_housed 86 [(5, .int (f_X4_lodge c a b S)), (4, .int (f_J6_bitCount_0f7a4 b)), (0, .ref 1), (1, .int a), (2, .int b), (3, .int i)] [.ref 1] (g_X4_lodge c a b S) R _
              refine u_getr rfl v_tyC rfl ?_
              show u_P L xs n d m_X11_housed 89 [(5, .int (f_X4_lodge c a b S)), (4, .int (f_J6_bitCount_0f7a4 b)), (0, .ref 1), (1, .int a), (2, .int b), (3, .int i)] [.ref 77] (g_X4_lodge c a b S) R _
              refine u_getE (v := (g_X4_lodge c a b S) 76 12) rfl rfl rfl rfl ?_
              refine u_st rfl (fun _ => rfl) ?_
              show u_P L xs n d m_X11_housed 104 [(5, .int (f_X4_lodge c a b S)), (4, .int (f_J6_bitCount_0f7a4 b)), (0, .ref 1), (1, .int a), (2, .int b), (3, .int i)] [.int ((g_X4_lodge c a b S) 76 12)] (g_X4_lodge c a b S) R _
              exact u_ret rfl rfl ⟨_, rfl, rfl, by rw [f_X11_housed, if_neg h1, if_neg h2, if_neg h3, if_pos h4, if_pos h5, if_pos h6], by rw [g_X11_housed, if_neg h1, if_neg h2, if_neg h3, if_pos h4, if_pos h5]⟩
            · show u_P L xs n d m_X11_housed 76 [(5, .int (f_X4_lodge c a b S)), (4, .int (f_J6_bitCount_0f7a4 b)), (0, .ref 1), (1, .int a), (2, .int b), (3, .int i)] [] (g_X4_lodge c a b S) R _
              refine u_st rfl (fun _ => rfl) ?_
              show u_P L xs n d m_X11_housed 78 [(5, .int (f_X4_lodge c a b S)), (4, .int (f_J6_bitCount_0f7a4 b)), (0, .ref 1), (1, .int a), (2, .int b), (3, .int i)] [.int (Int32.ofInt (-2))] (g_X4_lodge c a b S) R _
              exact u_ret rfl rfl ⟨_, rfl, rfl, by rw [f_X11_housed, if_neg h1, if_neg h2, if_neg h3, if_pos h4, if_pos h5, if_neg h6], by rw [g_X11_housed, if_neg h1, if_neg h2, if_neg h3, if_pos h4, if_pos h5]⟩
          · show u_P L xs n d m_X11_housed 46 [(4, .int (f_J6_bitCount_0f7a4 b)), (0, .ref 1), (1, .int a), (2, .int b), (3, .int i)] [] S R _
            refine u_st rfl (fun _ => rfl) ?_
            refine u_st rfl (fun _ => rfl) ?_
            show u_P L xs n d m_X11_housed 48 [(4, .int (f_J6_bitCount_0f7a4 b)), (0, .ref 1), (1, .int a), (2, .int b), (3, .int i)] [.int i, .int a] S R _
            refine u_cs (ac := [.int a, .int i]) (rest := []) rfl (by decide) mt_X11_isIn (fun _ => rfl) (Nat.le_of_ble_eq_true rfl) (Nat.le_of_ble_eq_true rfl) (fun d' => c_X11_isIn L xs n d' a i S R) ?_
            rintro _ _ _ ⟨_, rfl, rfl, rfl, rfl⟩
            show u_P L xs n d m_X11_housed 51 [(4, .int (f_J6_bitCount_0f7a4 b)), (0, .ref 1), (1, .int a), (2, .int b), (3, .int i)] [.int (f_X11_isIn a i)] S R _
            refine u_if_ne rfl (fun h8 => ?_) (fun h8 => ?_)
            · show u_P L xs n d m_X11_housed 56 [(4, .int (f_J6_bitCount_0f7a4 b)), (0, .ref 1), (1, .int a), (2, .int b), (3, .int i)] [] S R _
              refine u_st rfl (fun _ => rfl) ?_
              show u_P L xs n d m_X11_housed 57 [(4, .int (f_J6_bitCount_0f7a4 b)), (0, .ref 1), (1, .int a), (2, .int b), (3, .int i)] [.ref 1] S R _
              refine u_getr rfl v_tyC rfl ?_
              refine u_st rfl (fun _ => rfl) ?_
              show u_P L xs n d m_X11_housed 61 [(4, .int (f_J6_bitCount_0f7a4 b)), (0, .ref 1), (1, .int a), (2, .int b), (3, .int i)] [.ref 1, .ref 77] S R _
              refine u_getr rfl v_tyC rfl ?_
              refine u_st rfl (fun _ => rfl) ?_
              refine u_st rfl (fun _ => rfl) ?_
              show u_P L xs n d m_X11_housed 66 [(4, .int (f_J6_bitCount_0f7a4 b)), (0, .ref 1), (1, .int a), (2, .int b), (3, .int i)] [.int b, .int a, .ref 2, .ref 77] S R _
              refine u_cv (rest := []) rfl (by decide) mt_X4_lodge rfl rfl rfl rfl (Nat.le_of_ble_eq_true rfl) (Nat.le_of_ble_eq_true rfl) (Nat.le_of_ble_eq_true rfl) (fun d' => c_X4_lodge L xs n d' hW hL hc a b S) ?_
              rintro _ _ _ ⟨_, rfl, rfl, rfl, rfl⟩
              refine u_st rfl (fun _ => rfl) ?_
              refine u_st rfl (fun _ => rfl) ?_
              show u_P L xs n d m_X11_housed 73 [(5, .int (f_X4_lodge c a b S)), (4, .int (f_J6_bitCount_0f7a4 b)), (0, .ref 1), (1, .int a), (2, .int b), (3, .int i)] [.int (f_X4_lodge c a b S)] (g_X4_lodge c a b S) R _
              refine u_if_ne rfl (fun h9 => ?_) (fun h9 => ?_)
              · show u_P L xs n d m_X11_housed 79 [(5, .int (f_X4_lodge c a b S)), (4, .int (f_J6_bitCount_0f7a4 b)), (0, .ref 1), (1, .int a), (2, .int b), (3, .int i)] [] (g_X4_lodge c a b S) R _
                refine u_st rfl (fun _ => rfl) ?_
                refine u_st rfl (fun _ => rfl) ?_
                show u_P L xs n d m_X11_housed 82 [(5, .int (f_X4_lodge c a b S)), (4, .int (f_J6_bitCount_0f7a4 b)), (0, .ref 1), (1, .int a), (2, .int b), (3, .int i)] [.int (Int32.ofInt 20), .int i] (g_X4_lodge c a b S) R _
                refine u_ic_ne rfl (fun _ => ?_) (fun h10 => absurd h5 h10)
                show u_P L xs n d m_X11_housed 95 [(5, .int (f_X4_lodge c a b S)), (4, .int (f_J6_bitCount_0f7a4 b)), (0, .ref 1), (1, .int a), (2, .int b), (3, .int i)] [] (g_X4_lodge c a b S) R _
                refine u_st rfl (fun _ => rfl) ?_
                show u_P L xs n d m_X11_housed 96 [(5, .int (f_X4_lodge c a b S)), (4, .int (f_J6_bitCount_0f7a4 b)), (0, .ref 1), (1, .int a), (2, .int b), (3, .int i)] [.ref 1] (g_X4_lodge c a b S) R _
                refine u_getr rfl v_tyC rfl ?_
                refine u_st rfl (fun _ => rfl) ?_
                refine u_st rfl (fun _ => rfl) ?_
                show u_P L xs n d m_X11_housed 101 [(5, .int (f_X4_lodge c a b S)), (4, .int (f_J6_bitCount_0f7a4 b)), (0, .ref 1), (1, .int a), (2, .int b), (3, .int i)] [.int i, .int a, .ref 77] (g_X4_lodge c a b S) R _
                refine u_cv (rest := []) rfl (by decide) mt_X4_chosenFor rfl rfl rfl rfl (Nat.le_of_ble_eq_true rfl) (Nat.le_of_ble_eq_true rfl) (Nat.le_of_ble_eq_true rfl) (fun d' => c_X4_chosenFor L xs n d' a i (g_X4_lodge c a b S) R) ?_
                rintro _ _ _ ⟨_, rfl, rfl, rfl, rfl⟩
                show u_P L xs n d m_X11_housed 104 [(5, .int (f_X4_lodge c a b S)), (4, .int (f_J6_bitCount_0f7a4 b)), (0, .ref 1), (1, .int a), (2, .int b), (3, .int i)] [.int (f_X4_chosenFor a i (g_X4_lodge c a b S))] (g_X4_lodge c a b S) R _
                exact u_ret rfl rfl ⟨_, rfl, rfl, by rw [f_X11_housed, if_neg h1, if_neg h2, if_neg h3, if_pos h4, if_neg h5, if_pos h8, if_pos h9], by rw [g_X11_housed, if_neg h1, if_neg h2, if_neg h3, if_pos h4, if_neg h5, if_pos h8]⟩
              · show u_P L xs n d m_X11_housed 76 [(5, .int (f_X4_lodge c a b S)), (4, .int (f_J6_bitCount_0f7a4 b)), (0, .ref 1), (1, .int a), (2, .int b), (3, .int i)] [] (g_X4_lodge c a b S) R _
                refine u_st rfl (fun _ => rfl) ?_
                show u_P L xs n d m_X11_housed 78 [(5, .int (f_X4_lodge c a b S)), (4, .int (f_J6_bitCount_0f7a4 b)), (0, .ref 1), (1, .int a), (2, .int b), (3, .int i)] [.int (Int32.ofInt (-2))] (g_X4_lodge c a b S) R _
                exact u_ret rfl rfl ⟨_, rfl, rfl, by rw [f_X11_housed, if_neg h1, if_neg h2, if_neg h3, if_pos h4, if_neg h5, if_pos h8, if_neg h9], by rw [g_X11_housed, if_neg h1, if_neg h2, if_neg h3, if_pos h4, if_neg h5, if_pos h8]⟩
            · show u_P L xs n d m_X11_housed 54 [(4, .int (f_J6_bitCount_0f7a4 b)), (0, .ref 1), (1, .int a), (2, .int b), (3, .int i)] [] S R _
              refine u_st rfl (fun _ => rfl) ?_
              show u_P L xs n d m_X11_housed 55 [(4, .int (f_J6_bitCount_0f7a4 b)), (0, .ref 1), (1, .int a), (2, .int b), (3, .int i)] [.int (Int32.ofInt (-1))] S R _
              exact u_ret rfl rfl ⟨_, rfl, rfl, by rw [f_X11_housed, if_neg h1, if_neg h2, if_neg h3, if_pos h4, if_neg h5, if_neg h8], by rw [g_X11_housed, if_neg h1, if_neg h2, if_neg h3, if_pos h4, if_neg h5, if_neg h8]⟩
        · show u_P L xs n d m_X11_housed 38 [(4, .int (f_J6_bitCount_0f7a4 b)), (0, .ref 1), (1, .int a), (2, .int b), (3, .int i)] [] S R _
          refine u_st rfl (fun _ => rfl) ?_
          show u_P L xs n d m_X11_housed 39 [(4, .int (f_J6_bitCount_0f7a4 b)), (0, .ref 1), (1, .int a), (2, .int b), (3, .int i)] [.int (Int32.ofInt (-1))] S R _
          exact u_ret rfl rfl ⟨_, rfl, rfl, by rw [f_X11_housed, if_neg h1, if_neg h2, if_neg h3, if_neg h4], by rw [g_X11_housed, if_neg h1, if_neg h2, if_neg h3, if_neg h4]⟩
noncomputable abbrev m_X11_nursed : g_M := (g_cn 11, yX11_nursed, cX11_nursed, 5, (some .int), g_look2 ttX11_nursed)
set_option maxRecDepth 20000 in
theorem mt_X11_nursed : g_mt 142 = some m_X11_nursed := rfl
noncomputable def f_X11_nursed (c : Nat) (a : Int32) (b : Int32) (i : Int32) (S : v_Sf) : Int32 := (if (f_X11_within a (Int32.ofInt 31)) = 0 then Int32.ofInt (-1) else (if (f_X11_within b (Int32.ofInt 63)) = 0 then Int32.ofInt (-1) else (if (f_J6_bitCount_0f7a4 b) < (Int32.ofInt 1) then Int32.ofInt (-1) else (if (f_J6_bitCount_0f7a4 b) = (f_J6_bitCount_0f7a4 a) then (if ¬ (a &&& ((S 1 7) ^^^ (Int32.ofInt (-1)))) = 0 then Int32.ofInt (-1) else (if i = (Int32.ofInt 20) then (g_X4_staff c a b S) 76 12 else (if ¬ (f_X11_isIn b i) = 0 then f_X4_chosenFor b i (g_X4_staff c a b S) else Int32.ofInt (-1)))) else Int32.ofInt (-1)))))
noncomputable def g_X11_nursed (c : Nat) (a : Int32) (b : Int32) (i : Int32) (S : v_Sf) : v_Sf := (if (f_X11_within a (Int32.ofInt 31)) = 0 then S else (if (f_X11_within b (Int32.ofInt 63)) = 0 then S else (if (f_J6_bitCount_0f7a4 b) < (Int32.ofInt 1) then S else (if (f_J6_bitCount_0f7a4 b) = (f_J6_bitCount_0f7a4 a) then (if ¬ (a &&& ((S 1 7) ^^^ (Int32.ofInt (-1)))) = 0 then S else (if i = (Int32.ofInt 20) then g_X4_staff c a b S else (if ¬ (f_X11_isIn b i) = 0 then g_X4_staff c a b S else S))) else S))))
set_option maxRecDepth 4000 in
theorem c_X11_nursed (L : Nat) (xs : Nat → Int32) (n d : Nat) {R : v_Rf} (hW : z_W R) {c : Nat} (hL : R 50 2 = some (c + 1)) (hc : z_cd c) (a : Int32) (b : Int32) (i : Int32) (S : v_Sf) : u_P L xs n d m_X11_nursed 0 (lv_args 0 [.ref 1, .int a, .int b, .int i]) [] S R (z_Q R (fun v S1 => f_X11_nursed c a b i S = v ∧ g_X11_nursed c a b i S = S1)) := by
  show u_P L xs n d m_X11_nursed 0 [(0, .ref 1), (1, .int a), (2, .int b), (3, .int i)] [] S R _
  refine u_st rfl (fun _ => rfl) ?_
  show u_P L xs n d m_X11_nursed 1 [(0, .ref 1), (1, .int a), (2, .int b), (3, .int i)] [.int b] S R _
  refine u_cs (ac := [.int b]) (rest := []) rfl (by decide) mt_J6_bitCount_0f7a4 (fun _ => rfl) (Nat.le_of_ble_eq_true rfl) (Nat.le_of_ble_eq_true rfl) (fun d' => c_J6_bitCount_0f7a4 L xs n d' b S R) ?_
  rintro _ _ _ ⟨_, rfl, rfl, rfl, rfl⟩
  refine u_st rfl (fun _ => rfl) ?_
  refine u_st rfl (fun _ => rfl) ?_
  refine u_st rfl (fun _ => rfl) ?_
  show u_P L xs n d m_X11_nursed 9 [(4, .int (f_J6_bitCount_0f7a4 b)), (0, .ref 1), (1, .int a), (2, .int b), (3, .int i)] [.int (Int32.ofInt 31), .int a] S R _
  refine u_cs (ac := [.int a, .int (Int32.ofInt 31)]) (rest := []) rfl (by decide) mt_X11_within (fun _ => rfl) (Nat.le_of_ble_eq_true rfl) (Nat.le_of_ble_eq_true rfl) (fun d' => c_X11_within L xs n d' a (Int32.ofInt 31) S R) ?_
  rintro _ _ _ ⟨_, rfl, rfl, rfl, rfl⟩
  show u_P L xs n d m_X11_nursed 12 [(4, .int (f_J6_bitCount_0f7a4 b)), (0, .ref 1), (1, .int a), (2, .int b), (3, .int i)] [.int (f_X11_within a (Int32.ofInt 31))] S R _
  refine u_if_eq rfl (fun h1 => ?_) (fun h1 => ?_)
  · show u_P L xs n d m_X11_nursed 39 [(4, .int (f_J6_bitCount_0f7a4 b)), (0, .ref 1), (1, .int a), (2, .int b), (3, .int i)] [] S R _
    refine u_st rfl (fun _ => rfl) ?_
    show u_P L xs n d m_X11_nursed 40 [(4, .int (f_J6_bitCount_0f7a4 b)), (0, .ref 1), (1, .int a), (2, .int b), (3, .int i)] [.int (Int32.ofInt (-1))] S R _
    exact u_ret rfl rfl ⟨_, rfl, rfl, by rw [f_X11_nursed, if_pos h1], by rw [g_X11_nursed, if_pos h1]⟩
  · show u_P L xs n d m_X11_nursed 15 [(4, .int (f_J6_bitCount_0f7a4 b)), (0, .ref 1), (1, .int a), (2, .int b), (3, .int i)] [] S R _
    refine u_st rfl (fun _ => rfl) ?_
    refine u_st rfl (fun _ => rfl) ?_
    show u_P L xs n d m_X11_nursed 18 [(4, .int (f_J6_bitCount_0f7a4 b)), (0, .ref 1), (1, .int a), (2, .int b), (3, .int i)] [.int (Int32.ofInt 63), .int b] S R _
    refine u_cs (ac := [.int b, .int (Int32.ofInt 63)]) (rest := []) rfl (by decide) mt_X11_within (fun _ => rfl) (Nat.le_of_ble_eq_true rfl) (Nat.le_of_ble_eq_true rfl) (fun d' => c_X11_within L xs n d' b (Int32.ofInt 63) S R) ?_
    rintro _ _ _ ⟨_, rfl, rfl, rfl, rfl⟩
    show u_P L xs n d m_X11_nursed 21 [(4, .int (f_J6_bitCount_0f7a4 b)), (0, .ref 1), (1, .int a), (2, .int b), (3, .int i)] [.int (f_X11_within b (Int32.ofInt 63))] S R _
    refine u_if_eq rfl (fun h2 => ?_) (fun h2 => ?_)
    · show u_P L xs n d m_X11_nursed 39 [(4, .int (f_J6_bitCount_0f7a4 b)), (0, .ref 1), (1, .int a), (2, .int b), (3, .int i)] [] S R _
      refine u_st rfl (fun _ => rfl) ?_
      show u_P L xs n d m_X11_nursed 40 [(4, .int (f_J6_bitCount_0f7a4 b)), (0, .ref 1), (1, .int a), (2, .int b), (3, .int i)] [.int (Int32.ofInt (-1))] S R _
      exact u_ret rfl rfl ⟨_, rfl, rfl, by rw [f_X11_nursed, if_neg h1, if_pos h2], by rw [g_X11_nursed, if_neg h1, if_pos h2]⟩
    · show u_P L xs n d m_X11_nursed 24 [(4, .int (f_J6_bitCount_0f7a4 b)), (0, .ref 1), (1, .int a), (2, .int b), (3, .int i)] [] S R _
      refine u_st rfl (fun _ => rfl) ?_
      refine u_st rfl (fun _ => rfl) ?_
      show u_P L xs n d m_X11_nursed 27 [(4, .int (f_J6_bitCount_0f7a4 b)), (0, .ref 1), (1, .int a), (2, .int b), (3, .int i)] [.int (Int32.ofInt 1), .int (f_J6_bitCount_0f7a4 b)] S R _
      refine u_ic_lt rfl (fun h3 => ?_) (fun h3 => ?_)
      · show u_P L xs n d m_X11_nursed 39 [(4, .int (f_J6_bitCount_0f7a4 b)), (0, .ref 1), (1, .int a), (2, .int b), (3, .int i)] [] S R _
        refine u_st rfl (fun _ => rfl) ?_
        show u_P L xs n d m_X11_nursed 40 [(4, .int (f_J6_bitCount_0f7a4 b)), (0, .ref 1), (1, .int a), (2, .int b), (3, .int i)] [.int (Int32.ofInt (-1))] S R _
        exact u_ret rfl rfl ⟨_, rfl, rfl, by rw [f_X11_nursed, if_neg h1, if_neg h2, if_pos h3], by rw [g_X11_nursed, if_neg h1, if_neg h2, if_pos h3]⟩
      · show u_P L xs n d m_X11_nursed 30 [(4, .int (f_J6_bitCount_0f7a4 b)), (0, .ref 1), (1, .int a), (2, .int b), (3, .int i)] [] S R _
        refine u_st rfl (fun _ => rfl) ?_
        refine u_st rfl (fun _ => rfl) ?_
        show u_P L xs n d m_X11_nursed 33 [(4, .int (f_J6_bitCount_0f7a4 b)), (0, .ref 1), (1, .int a), (2, .int b), (3, .int i)] [.int a, .int (f_J6_bitCount_0f7a4 b)] S R _
        refine u_cs (ac := [.int a]) (rest := [.int (f_J6_bitCount_0f7a4 b)]) rfl (by decide) mt_J6_bitCount_0f7a4 (fun _ => rfl) (Nat.le_of_ble_eq_true rfl) (Nat.le_of_ble_eq_true rfl) (fun d' => c_J6_bitCount_0f7a4 L xs n d' a S R) ?_
        rintro _ _ _ ⟨_, rfl, rfl, rfl, rfl⟩
        show u_P L xs n d m_X11_nursed 36 [(4, .int (f_J6_bitCount_0f7a4 b)), (0, .ref 1), (1, .int a), (2, .int b), (3, .int i)] [.int (f_J6_bitCount_0f7a4 a), .int (f_J6_bitCount_0f7a4 b)] S R _
        refine u_ic_eq rfl (fun h4 => ?_) (fun h4 => ?_)
        · show u_P L xs n d m_X11_nursed 41 [(4, .int (f_J6_bitCount_0f7a4 b)), (0, .ref 1), (1, .int a), (2, .int b), (3, .int i)] [] S R _
          refine u_st rfl (fun _ => rfl) ?_
          refine u_st rfl (fun _ => rfl) ?_
          show u_P L xs n d m_X11_nursed 43 [(4, .int (f_J6_bitCount_0f7a4 b)), (0, .ref 1), (1, .int a), (2, .int b), (3, .int i)] [.ref 1, .int a] S R _
          refine u_getr rfl v_tyC rfl ?_
          show u_P L xs n d m_X11_nursed 46 [(4, .int (f_J6_bitCount_0f7a4 b)), (0, .ref 1), (1, .int a), (2, .int b), (3, .int i)] [.ref 2, .int a] S R _
          refine u_getE (v := S 1 7) rfl rfl rfl rfl ?_
          refine u_st rfl (fun _ => rfl) ?_
          refine u_st rfl (fun _ => rfl) ?_
          refine u_st rfl (fun _ => rfl) ?_
          show u_P L xs n d m_X11_nursed 52 [(4, .int (f_J6_bitCount_0f7a4 b)), (0, .ref 1), (1, .int a), (2, .int b), (3, .int i)] [.int (a &&& ((S 1 7) ^^^ (Int32.ofInt (-1))))] S R _
          refine u_if_ne rfl (fun h5 => ?_) (fun h5 => ?_)
          · show u_P L xs n d m_X11_nursed 69 [(4, .int (f_J6_bitCount_0f7a4 b)), (0, .ref 1), (1, .int a), (2, .int b), (3, .int i)] [] S R _
            refine u_st rfl (fun _ => rfl) ?_
            show u_P L xs n d m_X11_nursed 70 [(4, .int (f_J6_bitCount_0f7a4 b)), (0, .ref 1), (1, .int a), (2, .int b), (3, .int i)] [.int (Int32.ofInt (-1))] S R _
            exact u_ret rfl rfl ⟨_, rfl, rfl, by rw [f_X11_nursed, if_neg h1, if_neg h2, if_neg h3, if_pos h4, if_pos h5], by rw [g_X11_nursed, if_neg h1, if_neg h2, if_neg h3, if_pos h4, if_pos h5]⟩
          · show u_P L xs n d m_X11_nursed 55 [(4, .int (f_J6_bitCount_0f7a4 b)), (0, .ref 1), (1, .int a), (2, .int b), (3, .int i)] [] S R _
            refine u_st rfl (fun _ => rfl) ?_
            refine u_st rfl (fun _ => rfl) ?_
            show u_P L xs n d m_X11_nursed 58 [(4, .int (f_J6_bitCount_0f7a4 b)), (0, .ref 1), (1, .int a), (2, .int b), (3, .int i)] [.int (Int32.ofInt 20), .int i] S R _
            refine u_ic_eq rfl (fun h6 => ?_) (fun h6 => ?_)
            · show u_P L xs n d m_X11_nursed 71 [(4, .int (f_J6_bitCount_0f7a4 b)), (0, .ref 1), (1, .int a), (2, .int b), (3, .int i)] [] S R _
              refine u_st rfl (fun _ => rfl) ?_
              show u_P L xs n d m_X11_nursed 72 [(4, .int (f_J6_bitCount_0f7a4 b)), (0, .ref 1), (1, .int a), (2, .int b), (3, .int i)] [.ref 1] S R _
              refine u_getr rfl v_tyC rfl ?_
              refine u_st rfl (fun _ => rfl) ?_
              show u_P L xs n d m_X11_nursed 76 [(4, .int (f_J6_bitCount_0f7a4 b)), (0, .ref 1), (1, .int a), (2, .int b), (3, .int i)] [.ref 1, .ref 77] S R _
              refine u_getr rfl v_tyC rfl ?_
              refine u_st rfl (fun _ => rfl) ?_
              refine u_st rfl (fun _ => rfl) ?_
              show u_P L xs n d m_X11_nursed 81 [(4, .int (f_J6_bitCount_0f7a4 b)), (0, .ref 1), (1, .int a), (2, .int b), (3, .int i)] [.int b, .int a, .ref 2, .ref 77] S R _
              refine u_cv (rest := []) rfl (by decide) mt_X4_staff rfl rfl rfl rfl (Nat.le_of_ble_eq_true rfl) (Nat.le_of_ble_eq_true rfl) (Nat.le_of_ble_eq_true rfl) (fun d' => c_X4_staff L xs n d' hW hL hc a b S) ?_
              rintro _ _ _ ⟨rfl, rfl, rfl⟩
              refine u_st rfl (fun _ => rfl) ?_
              refine u_st rfl (fun _ => rfl) ?_
              show u_P L xs n d m_X11_nursed 87 [(4, .int (f_J6_bitCount_0f7a4 b)), (0, .ref 1), (1, .int a), (2, .int b), (3, .int i)] [.int (Int32.ofInt 20), .int i] (g_X4_staff c a b S) R _
              refine u_ic_ne rfl (fun h7 => absurd h6 h7) (fun _ => ?_)
              show u_P L xs n d m_X11_nursed 90 [(4, .int (f_J6_bitCount_0f7a4 b)), (0, .ref 1), (1, .int a), (2, .int b), (3, .int i)] [] (g_X4_staff c a b S) R _
              refine u_st rfl (fun _ => rfl) ?_
              show u_P L xs n d m_X11_nursed 91 [(4, .int (f_J6_bitCount_0f7a4 b)), (0, .ref 1), (1, .int a), (2, .int b), (3, .int i)] [.ref 1] (g_X4_staff c a b S) R _
              refine u_getr rfl v_tyC rfl ?_
              show u_P L xs n d m_X11_nursed 94 [(4, .int (f_J6_bitCount_0f7a4 b)), (0, .ref 1), (1, .int a), (2, .int b), (3, .int i)] [.ref 77] (g_X4_staff c a b S) R _
              refine u_getE (v := (g_X4_staff c a b S) 76 12) rfl rfl rfl rfl ?_
              refine u_st rfl (fun _ => rfl) ?_
              show u_P L xs n d m_X11_nursed 109 [(4, .int (f_J6_bitCount_0f7a4 b)), (0, .ref 1), (1, .int a), (2, .int b), (3, .int i)] [.int ((g_X4_staff c a b S) 76 12)] (g_X4_staff c a b S) R _
              exact u_ret rfl rfl ⟨_, rfl, rfl, by rw [f_X11_nursed, if_neg h1, if_neg h2, if_neg h3, if_pos h4, if_neg h5, if_pos h6], by rw [g_X11_nursed, if_neg h1, if_neg h2, if_neg h3, if_pos h4, if_neg h5, if_pos h6]⟩
            · show u_P L xs n d m_X11_nursed 61 [(4, .int (f_J6_bitCount_0f7a4 b)), (0, .ref 1), (1, .int a), (2, .int b), (3, .int i)] [] S R _
              refine u_st rfl (fun _ => rfl) ?_
              refine u_st rfl (fun _ => rfl) ?_
              show u_P L xs n d m_X11_nursed 63 [(4, .int (f_J6_bitCount_0f7a4 b)), (0, .ref 1), (1, .int a), (2, .int b), (3, .int i)] [.int i, .int b] S R _
              refine u_cs (ac := [.int b, .int i]) (rest := []) rfl (by decide) mt_X11_isIn (fun _ => rfl) (Nat.le_of_ble_eq_true rfl) (Nat.le_of_ble_eq_true rfl) (fun d' => c_X11_isIn L xs n d' b i S R) ?_
              rintro _ _ _ ⟨_, rfl, rfl, rfl, rfl⟩
              show u_P L xs n d m_X11_nursed 66 [(4, .int (f_J6_bitCount_0f7a4 b)), (0, .ref 1), (1, .int a), (2, .int b), (3, .int i)] [.int (f_X11_isIn b i)] S R _
              refine u_if_ne rfl (fun h8 => ?_) (fun h8 => ?_)
              · show u_P L xs n d m_X11_nursed 71 [(4, .int (f_J6_bitCount_0f7a4 b)), (0, .ref 1), (1, .int a), (2, .int b), (3, .int i)] [] S R _
                refine u_st rfl (fun _ => rfl) ?_
                show u_P L xs n d m_X11_nursed 72 [(4, .int (f_J6_bitCount_0f7a4 b)), (0, .ref 1), (1, .int a), (2, .int b), (3, .int i)] [.ref 1] S R _
                refine u_getr rfl v_tyC rfl ?_
                refine u_st rfl (fun _ => rfl) ?_
                show u_P L xs n d m_X11_nursed 76 [(4, .int (f_J6_bitCount_0f7a4 b)), (0, .ref 1), (1, .int a), (2, .int b), (3, .int i)] [.ref 1, .ref 77] S R _
                refine u_getr rfl v_tyC rfl ?_
                refine u_st rfl (fun _ => rfl) ?_
                refine u_st rfl (fun _ => rfl) ?_
                show u_P L xs n d m_X11_nursed 81 [(4, .int (f_J6_bitCount_0f7a4 b)), (0, .ref 1), (1, .int a), (2, .int b), (3, .int i)] [.int b, .int a, .ref 2, .ref 77] S R _
                refine u_cv (rest := []) rfl (by decide) mt_X4_staff rfl rfl rfl rfl (Nat.le_of_ble_eq_true rfl) (Nat.le_of_ble_eq_true rfl) (Nat.le_of_ble_eq_true rfl) (fun d' => c_X4_staff L xs n d' hW hL hc a b S) ?_
                rintro _ _ _ ⟨rfl, rfl, rfl⟩
                refine u_st rfl (fun _ => rfl) ?_
                refine u_st rfl (fun _ => rfl) ?_
                show u_P L xs n d m_X11_nursed 87 [(4, .int (f_J6_bitCount_0f7a4 b)), (0, .ref 1), (1, .int a), (2, .int b), (3, .int i)] [.int (Int32.ofInt 20), .int i] (g_X4_staff c a b S) R _
                refine u_ic_ne rfl (fun _ => ?_) (fun h9 => absurd h6 h9)
                show u_P L xs n d m_X11_nursed 100 [(4, .int (f_J6_bitCount_0f7a4 b)), (0, .ref 1), (1, .int a), (2, .int b), (3, .int i)] [] (g_X4_staff c a b S) R _
                refine u_st rfl (fun _ => rfl) ?_
                show u_P L xs n d m_X11_nursed 101 [(4, .int (f_J6_bitCount_0f7a4 b)), (0, .ref 1), (1, .int a), (2, .int b), (3, .int i)] [.ref 1] (g_X4_staff c a b S) R _
                refine u_getr rfl v_tyC rfl ?_
                refine u_st rfl (fun _ => rfl) ?_
                refine u_st rfl (fun _ => rfl) ?_
                show u_P L xs n d m_X11_nursed 106 [(4, .int (f_J6_bitCount_0f7a4 b)), (0, .ref 1), (1, .int a), (2, .int b), (3, .int i)] [.int i, .int b, .ref 77] (g_X4_staff c a b S) R _
                refine u_cv (rest := []) rfl (by decide) mt_X4_chosenFor rfl rfl rfl rfl (Nat.le_of_ble_eq_true rfl) (Nat.le_of_ble_eq_true rfl) (Nat.le_of_ble_eq_true rfl) (fun d' => c_X4_chosenFor L xs n d' b i (g_X4_staff c a b S) R) ?_
                rintro _ _ _ ⟨_, rfl, rfl, rfl, rfl⟩
                show u_P L xs n d m_X11_nursed 109 [(4, .int (f_J6_bitCount_0f7a4 b)), (0, .ref 1), (1, .int a), (2, .int b), (3, .int i)] [.int (f_X4_chosenFor b i (g_X4_staff c a b S))] (g_X4_staff c a b S) R _
                exact u_ret rfl rfl ⟨_, rfl, rfl, by rw [f_X11_nursed, if_neg h1, if_neg h2, if_neg h3, if_pos h4, if_neg h5, if_neg h6, if_pos h8], by rw [g_X11_nursed, if_neg h1, if_neg h2, if_neg h3, if_pos h4, if_neg h5, if_neg h6, if_pos h8]⟩
              · show u_P L xs n d m_X11_nursed 69 [(4, .int (f_J6_bitCount_0f7a4 b)), (0, .ref 1), (1, .int a), (2, .int b), (3, .int i)] [] S R _
                refine u_st rfl (fun _ => rfl) ?_
                show u_P L xs n d m_X11_nursed 70 [(4, .int (f_J6_bitCount_0f7a4 b)), (0, .ref 1), (1, .int a), (2, .int b), (3, .int i)] [.int (Int32.ofInt (-1))] S R _
                exact u_ret rfl rfl ⟨_, rfl, rfl, by rw [f_X11_nursed, if_neg h1, if_neg h2, if_neg h3, if_pos h4, if_neg h5, if_neg h6, if_neg h8], by rw [g_X11_nursed, if_neg h1, if_neg h2, if_neg h3, if_pos h4, if_neg h5, if_neg h6, if_neg h8]⟩
        · show u_P L xs n d m_X11_nursed 39 [(4, .int (f_J6_bitCount_0f7a4 b)), (0, .ref 1), (1, .int a), (2, .int b), (3, .int i)] [] S R _
          refine u_st rfl (fun _ => rfl) ?_
          show u_P L xs n d m_X11_nursed 40 [(4, .int (f_J6_bitCount_0f7a4 b)), (0, .ref 1), (1, .int a), (2, .int b), (3, .int i)] [.int (Int32.ofInt (-1))] S R _
          exact u_ret rfl rfl ⟨_, rfl, rfl, by rw [f_X11_nursed, if_neg h1, if_neg h2, if_neg h3, if_neg h4], by rw [g_X11_nursed, if_neg h1, if_neg h2, if_neg h3, if_neg h4]⟩
end PrtS42ya
section PrtS42yb
noncomputable def D_X12_takesPlaces_4  (H4 : Int32 → Int32 → Int32 → v_Sf → Prop) (K : Int32 → v_Sf → Prop) (x1 : Int32) (x2 : Int32) (x3 : Int32) (S : v_Sf) : Prop := (((Int32.ofInt 6) ≤ x3 → K x2 S) ∧ (¬ ((Int32.ofInt 6) ≤ x3) → (((¬ (f_X12_has x1 x3) = 0) → (0 ≤ x2.toInt → x2.toInt < 6 → H4 x1 (x2 + (Int32.ofInt 1)) (x3 + (Int32.ofInt 1)) (z_s S 153 x2.toInt.toNat x3))) ∧ (¬ (¬ (f_X12_has x1 x3) = 0) → H4 x1 x2 (x3 + (Int32.ofInt 1)) S))))
noncomputable def D_X12_takesPlaces (a : Int32) (H4 : Int32 → Int32 → Int32 → v_Sf → Prop) (K : Int32 → v_Sf → Prop) (S : v_Sf) : Prop := H4 a (Int32.ofInt 0) (Int32.ofInt 0) S
set_option maxRecDepth 4000 in
theorem hd_X12_takesPlaces (L : Nat) (xs : Nat → Int32) {R : v_Rf} (a : Int32) (H4 : Int32 → Int32 → Int32 → v_Sf → Prop) (K : Int32 → v_Sf → Prop) (k4 : ∀ (x1 : Int32) (x2 : Int32) (x3 : Int32) (S : v_Sf), H4 x1 x2 x3 S → D_X12_takesPlaces_4 H4 K x1 x2 x3 S) : ∀ n, (∀ (d : Nat) (x1 : Int32) (x2 : Int32) (x3 : Int32) (S : v_Sf), H4 x1 x2 x3 S → u_P L xs n d m_X12_takesPlaces 4 [(0, .ref 100), (1, .int x1), (2, .int x2), (3, .int x3)] [] S R (z_Q R K)) := by
  intro n
  induction n using Nat.strongRecOn with
  | ind n ih =>
    intro d x1 x2 x3 S hD
    have hD := k4 x1 x2 x3 S hD
    unfold D_X12_takesPlaces_4 at hD
    show u_P L xs n d m_X12_takesPlaces 4 [(0, .ref 100), (1, .int x1), (2, .int x2), (3, .int x3)] [] S R _
    refine u_st1 rfl (fun _ => rfl) (fun m hm => ?_)
    refine u_st rfl (fun _ => rfl) ?_
    show u_P L xs m d m_X12_takesPlaces 7 [(0, .ref 100), (1, .int x1), (2, .int x2), (3, .int x3)] [.int (Int32.ofInt 6), .int x3] S R _
    refine u_ic_ge rfl (fun h1 => ?_) (fun h1 => ?_)
    · have hD := hD.1 h1
      show u_P L xs m d m_X12_takesPlaces 37 [(0, .ref 100), (1, .int x1), (2, .int x2), (3, .int x3)] [] S R _
      refine u_st rfl (fun _ => rfl) ?_
      show u_P L xs m d m_X12_takesPlaces 38 [(0, .ref 100), (1, .int x1), (2, .int x2), (3, .int x3)] [.int x2] S R _
      exact u_ret rfl rfl ⟨_, rfl, rfl, hD⟩
    · have hD := hD.2 h1
      show u_P L xs m d m_X12_takesPlaces 10 [(0, .ref 100), (1, .int x1), (2, .int x2), (3, .int x3)] [] S R _
      refine u_st rfl (fun _ => rfl) ?_
      refine u_st rfl (fun _ => rfl) ?_
      show u_P L xs m d m_X12_takesPlaces 12 [(0, .ref 100), (1, .int x1), (2, .int x2), (3, .int x3)] [.int x3, .int x1] S R _
      refine u_cs (ac := [.int x1, .int x3]) (rest := []) rfl (by decide) mt_X12_has (fun _ => rfl) (Nat.le_of_ble_eq_true rfl) (Nat.le_of_ble_eq_true rfl) (fun d' => c_X12_has L xs m d' x1 x3 S R) ?_
      rintro _ _ _ ⟨_, rfl, rfl, rfl, rfl⟩
      show u_P L xs m d m_X12_takesPlaces 15 [(0, .ref 100), (1, .int x1), (2, .int x2), (3, .int x3)] [.int (f_X12_has x1 x3)] S R _
      refine u_if_ne rfl (fun h2 => ?_) (fun h2 => ?_)
      · have hD := hD.1 h2
        show u_P L xs m d m_X12_takesPlaces 21 [(0, .ref 100), (1, .int x1), (2, .int x2), (3, .int x3)] [] S R _
        refine u_st rfl (fun _ => rfl) ?_
        show u_P L xs m d m_X12_takesPlaces 22 [(0, .ref 100), (1, .int x1), (2, .int x2), (3, .int x3)] [.ref 100] S R _
        refine u_getr rfl v_tyM rfl ?_
        refine u_st rfl (fun _ => rfl) ?_
        refine u_st rfl (fun _ => rfl) ?_
        show u_P L xs m d m_X12_takesPlaces 27 [(0, .ref 100), (1, .int x1), (2, .int x2), (3, .int x3)] [.int x3, .int x2, .ref 154] S R _
        refine u_iast rfl rfl (fun b31 b32 => ?_)
        have hD := hD b31 b32
        show u_P L xs m d m_X12_takesPlaces 28 [(0, .ref 100), (1, .int x1), (2, .int x2), (3, .int x3)] [] (z_s S 153 x2.toInt.toNat x3) R _
        refine u_st rfl (fun _ => rfl) ?_
        refine u_st rfl (fun _ => rfl) ?_
        refine u_st rfl (fun _ => rfl) ?_
        refine u_lc (b := [(0, .ref 100), (1, .int x1), (2, .int (x2 + (Int32.ofInt 1))), (3, .int (x3 + (Int32.ofInt 1)))]) (show ([3, 2, 0, 1] : List Nat).Nodup by decide) (show ([0, 1, 2, 3] : List Nat).Nodup by decide) (fun i => match i with | 0 => rfl | 1 => rfl | 2 => rfl | 3 => rfl | _ + 4 => rfl) ?_
        exact (ih m hm) d x1 (x2 + (Int32.ofInt 1)) (x3 + (Int32.ofInt 1)) (z_s S 153 x2.toInt.toNat x3) hD
      · have hD := hD.2 h2
        show u_P L xs m d m_X12_takesPlaces 18 [(0, .ref 100), (1, .int x1), (2, .int x2), (3, .int x3)] [] S R _
        refine u_st rfl (fun _ => rfl) ?_
        refine u_st rfl (fun _ => rfl) ?_
        refine u_st rfl (fun _ => rfl) ?_
        refine u_lc (b := [(0, .ref 100), (1, .int x1), (2, .int x2), (3, .int (x3 + (Int32.ofInt 1)))]) (show ([3, 0, 1, 2] : List Nat).Nodup by decide) (show ([0, 1, 2, 3] : List Nat).Nodup by decide) (fun i => match i with | 0 => rfl | 1 => rfl | 2 => rfl | 3 => rfl | _ + 4 => rfl) ?_
        exact (ih m hm) d x1 x2 (x3 + (Int32.ofInt 1)) S hD
set_option maxRecDepth 4000 in
theorem w_X12_takesPlaces (L : Nat) (xs : Nat → Int32) {R : v_Rf} (a : Int32) (H4 : Int32 → Int32 → Int32 → v_Sf → Prop) (K : Int32 → v_Sf → Prop) (k4 : ∀ (x1 : Int32) (x2 : Int32) (x3 : Int32) (S : v_Sf), H4 x1 x2 x3 S → D_X12_takesPlaces_4 H4 K x1 x2 x3 S) (n d : Nat) (S : v_Sf) (hD : D_X12_takesPlaces a H4 K S) : u_P L xs n d m_X12_takesPlaces 0 (lv_args 0 [.ref 100, .int a]) [] S R (z_Q R K) := by
  unfold D_X12_takesPlaces at hD
  show u_P L xs n d m_X12_takesPlaces 0 [(0, .ref 100), (1, .int a)] [] S R _
  refine u_st rfl (fun _ => rfl) ?_
  refine u_st rfl (fun _ => rfl) ?_
  refine u_st rfl (fun _ => rfl) ?_
  refine u_st rfl (fun _ => rfl) ?_
  refine u_lc (b := [(0, .ref 100), (1, .int a), (2, .int (Int32.ofInt 0)), (3, .int (Int32.ofInt 0))]) (show ([3, 2, 0, 1] : List Nat).Nodup by decide) (show ([0, 1, 2, 3] : List Nat).Nodup by decide) (fun i => match i with | 0 => rfl | 1 => rfl | 2 => rfl | 3 => rfl | _ + 4 => rfl) ?_
  exact (hd_X12_takesPlaces L xs a H4 K k4 n) d a (Int32.ofInt 0) (Int32.ofInt 0) S hD
noncomputable def r_X12_takesPlaces_4 (x1 : Int32) : Nat → Nat → Int32 → v_Sf → Int32 × v_Sf
  | 0, k4, x2, S => (x2, S)
  | r + 1, k4, x2, S => (if ¬ (f_X12_has x1 (z_i k4)) = 0 then r_X12_takesPlaces_4 x1 r (k4 + 1) (x2 + (Int32.ofInt 1)) (z_s S 153 x2.toInt.toNat (z_i k4)) else r_X12_takesPlaces_4 x1 r (k4 + 1) x2 S)
noncomputable def F_X12_takesPlaces (a : Int32) (S : v_Sf) : Int32 × v_Sf := r_X12_takesPlaces_4 a (6 - 0) 0 (Int32.ofInt 0) S
noncomputable def f_X12_takesPlaces (a : Int32) (S : v_Sf) : Int32 := (F_X12_takesPlaces a S).1
noncomputable def g_X12_takesPlaces (a : Int32) (S : v_Sf) : v_Sf := (F_X12_takesPlaces a S).2
theorem c_X12_takesPlaces (L : Nat) (xs : Nat → Int32) (n d : Nat) (a : Int32) (S : v_Sf) (R : v_Rf) : u_P L xs n d m_X12_takesPlaces 0 (lv_args 0 [.ref 100, .int a]) [] S R (z_Q R (fun v S1 => f_X12_takesPlaces a S = v ∧ g_X12_takesPlaces a S = S1)) := by
  refine w_X12_takesPlaces L xs a (fun y1 y2 y3 T => ∃ (k4 : Nat), k4 ≤ 6 ∧ z_i k4 = y3 ∧ a = y1 ∧ r_X12_takesPlaces_4 a (6 - k4) k4 y2 T = F_X12_takesPlaces a S) (fun v S1 => f_X12_takesPlaces a S = v ∧ g_X12_takesPlaces a S = S1) ?_ n d S ?_
  · rintro _ x2 _ S1 ⟨k4, hkk, rfl, rfl, e⟩
    unfold D_X12_takesPlaces_4
    rcases Nat.lt_or_ge k4 (6) with hk | hk
    · rw [show 6 - k4 = (6 - (k4 + 1)) + 1 by omega, r_X12_takesPlaces_4] at e
      refine ⟨fun q1 => ?_, fun q1 => ?_⟩
      · exact absurd hk (Nat.not_lt.mpr (z_leB2 (B := 6) q1 (by decide) (by omega)))
      · refine ⟨fun q2 => ?_, fun q2 => ?_⟩
        · intro _ _
          rw [if_pos q2] at e
          exact ⟨(k4 + 1), by omega, (z_i1 k4).symm, rfl, e⟩
        · rw [if_neg q2] at e
          exact ⟨(k4 + 1), by omega, (z_i1 k4).symm, rfl, e⟩
    · rw [show 6 - k4 = 0 by omega, r_X12_takesPlaces_4] at e
      refine ⟨fun q3 => ?_, fun q3 => ?_⟩
      · have e1 := congrArg Prod.fst e.symm
        have e2 := congrArg Prod.snd e.symm
        exact ⟨e1, e2⟩
      · exact absurd hk (Nat.not_le.mpr (z_ltB2 (B := 6) q3 (by decide) (by omega)))
  · unfold D_X12_takesPlaces
    have e : r_X12_takesPlaces_4 a (6 - 0) 0 (Int32.ofInt 0) S = F_X12_takesPlaces a S := by rw [F_X12_takesPlaces]
    exact ⟨0, by omega, rfl, rfl, e⟩
noncomputable abbrev m_X12_isRoomFor : g_M := (g_cn 12, yX12_isRoomFor, cX12_isRoomFor, 6, (some .boolean), g_look2 ttX12_isRoomFor)
set_option maxRecDepth 20000 in
theorem mt_X12_isRoomFor : g_mt 257 = some m_X12_isRoomFor := rfl
noncomputable def D_X12_isRoomFor_2  (H2 : Int32 → Int32 → Int32 → v_Sf → Prop) (H13 : Int32 → Int32 → Int32 → Int32 → Int32 → v_Sf → Prop) (K : Int32 → v_Sf → Prop) (x1 : Int32) (x2 : Int32) (x3 : Int32) (S : v_Sf) : Prop := ((x2 ≤ x3 → K (Int32.ofInt 1) S) ∧ (¬ (x2 ≤ x3) → H13 x1 x2 x3 (Int32.ofInt 0) (Int32.ofInt 0) S))
noncomputable def D_X12_isRoomFor_13  (H2 : Int32 → Int32 → Int32 → v_Sf → Prop) (H13 : Int32 → Int32 → Int32 → Int32 → Int32 → v_Sf → Prop) (K : Int32 → v_Sf → Prop) (x1 : Int32) (x2 : Int32) (x3 : Int32) (x4 : Int32) (x5 : Int32) (S : v_Sf) : Prop := ((x1 ≤ x5 → (0 ≤ x3.toInt → x3.toInt < 6 → (0 ≤ (S 153 x3.toInt.toNat).toInt → (S 153 x3.toInt.toNat).toInt < 6 → ((x4 ≤ (S 123 ((S 153 x3.toInt.toNat).toInt.toNat)) → H2 x1 x2 (x3 + (Int32.ofInt 1)) S) ∧ (¬ (x4 ≤ (S 123 ((S 153 x3.toInt.toNat).toInt.toNat))) → K (Int32.ofInt 0) S))))) ∧ (¬ (x1 ≤ x5) → (0 ≤ x5.toInt → x5.toInt < 8 → (((¬ (S 154 x5.toInt.toNat) = x3) → H13 x1 x2 x3 (x4 + (Int32.ofInt 0)) (x5 + (Int32.ofInt 1)) S) ∧ (¬ (¬ (S 154 x5.toInt.toNat) = x3) → H13 x1 x2 x3 (x4 + (Int32.ofInt 1)) (x5 + (Int32.ofInt 1)) S)))))
noncomputable def D_X12_isRoomFor (a : Int32) (b : Int32) (H2 : Int32 → Int32 → Int32 → v_Sf → Prop) (H13 : Int32 → Int32 → Int32 → Int32 → Int32 → v_Sf → Prop) (K : Int32 → v_Sf → Prop) (S : v_Sf) : Prop := H2 a b (Int32.ofInt 0) S
set_option maxRecDepth 4000 in
theorem hd_X12_isRoomFor (L : Nat) (xs : Nat → Int32) {R : v_Rf} (a : Int32) (b : Int32) (H2 : Int32 → Int32 → Int32 → v_Sf → Prop) (H13 : Int32 → Int32 → Int32 → Int32 → Int32 → v_Sf → Prop) (K : Int32 → v_Sf → Prop) (k2 : ∀ (x1 : Int32) (x2 : Int32) (x3 : Int32) (S : v_Sf), H2 x1 x2 x3 S → D_X12_isRoomFor_2 H2 H13 K x1 x2 x3 S) (k13 : ∀ (x1 : Int32) (x2 : Int32) (x3 : Int32) (x4 : Int32) (x5 : Int32) (S : v_Sf), H13 x1 x2 x3 x4 x5 S → D_X12_isRoomFor_13 H2 H13 K x1 x2 x3 x4 x5 S) : ∀ n, (∀ (d : Nat) (x1 : Int32) (x2 : Int32) (x3 : Int32) (S : v_Sf), H2 x1 x2 x3 S → u_P L xs n d m_X12_isRoomFor 2 [(0, .ref 100), (1, .int x1), (2, .int x2), (3, .int x3)] [] S R (z_Q R K)) ∧ (∀ (d : Nat) (j4 : Int32) (j5 : Int32) (x1 : Int32) (x2 : Int32) (x3 : Int32) (S : v_Sf), H2 x1 x2 x3 S → u_P L xs n d m_X12_isRoomFor 2 [(0, .ref 100), (1, .int x1), (2, .int x2), (3, .int x3), (4, .int j4), (5, .int j5)] [] S R (z_Q R K)) ∧ (∀ (d : Nat) (x1 : Int32) (x2 : Int32) (x3 : Int32) (x4 : Int32) (x5 : Int32) (S : v_Sf), H13 x1 x2 x3 x4 x5 S → u_P L xs n d m_X12_isRoomFor 13 [(0, .ref 100), (1, .int x1), (2, .int x2), (3, .int x3), (4, .int x4), (5, .int x5)] [] S R (z_Q R K)) := by
  intro n
  induction n using Nat.strongRecOn with
  | ind n ih =>
    refine ⟨?_, ?_, ?_⟩
    · intro d x1 x2 x3 S hD
      have hD := k2 x1 x2 x3 S hD
      unfold D_X12_isRoomFor_2 at hD
      show u_P L xs n d m_X12_isRoomFor 2 [(0, .ref 100), (1, .int x1), (2, .int x2), (3, .int x3)] [] S R _
      refine u_st1 rfl (fun _ => rfl) (fun m hm => ?_)
      refine u_st rfl (fun _ => rfl) ?_
      show u_P L xs m d m_X12_isRoomFor 4 [(0, .ref 100), (1, .int x1), (2, .int x2), (3, .int x3)] [.int x2, .int x3] S R _
      refine u_ic_ge rfl (fun h1 => ?_) (fun h1 => ?_)
      · have hD := hD.1 h1
        show u_P L xs m d m_X12_isRoomFor 70 [(0, .ref 100), (1, .int x1), (2, .int x2), (3, .int x3)] [] S R _
        refine u_st rfl (fun _ => rfl) ?_
        show u_P L xs m d m_X12_isRoomFor 71 [(0, .ref 100), (1, .int x1), (2, .int x2), (3, .int x3)] [.int (Int32.ofInt 1)] S R _
        exact u_retb rfl rfl ⟨_, rfl, rfl, hD⟩
      · have hD := hD.2 h1
        show u_P L xs m d m_X12_isRoomFor 7 [(0, .ref 100), (1, .int x1), (2, .int x2), (3, .int x3)] [] S R _
        refine u_st rfl (fun _ => rfl) ?_
        refine u_st rfl (fun _ => rfl) ?_
        refine u_st rfl (fun _ => rfl) ?_
        refine u_st rfl (fun _ => rfl) ?_
        refine u_lc (b := [(0, .ref 100), (1, .int x1), (2, .int x2), (3, .int x3), (4, .int (Int32.ofInt 0)), (5, .int (Int32.ofInt 0))]) (show ([5, 4, 0, 1, 2, 3] : List Nat).Nodup by decide) (show ([0, 1, 2, 3, 4, 5] : List Nat).Nodup by decide) (fun i => match i with | 0 => rfl | 1 => rfl | 2 => rfl | 3 => rfl | 4 => rfl | 5 => rfl | _ + 6 => rfl) ?_
        exact (ih m hm).2.2 d x1 x2 x3 (Int32.ofInt 0) (Int32.ofInt 0) S hD
    · intro d j4 j5 x1 x2 x3 S hD
      have hD := k2 x1 x2 x3 S hD
      unfold D_X12_isRoomFor_2 at hD
      show u_P L xs n d m_X12_isRoomFor 2 [(0, .ref 100), (1, .int x1), (2, .int x2), (3, .int x3), (4, .int j4), (5, .int j5)] [] S R _
      refine u_st1 rfl (fun _ => rfl) (fun m hm => ?_)
      refine u_st rfl (fun _ => rfl) ?_
      show u_P L xs m d m_X12_isRoomFor 4 [(0, .ref 100), (1, .int x1), (2, .int x2), (3, .int x3), (4, .int j4), (5, .int j5)] [.int x2, .int x3] S R _
      refine u_ic_ge rfl (fun h1 => ?_) (fun h1 => ?_)
      · have hD := hD.1 h1
        show u_P L xs m d m_X12_isRoomFor 70 [(0, .ref 100), (1, .int x1), (2, .int x2), (3, .int x3), (4, .int j4), (5, .int j5)] [] S R _
        refine u_st rfl (fun _ => rfl) ?_
        show u_P L xs m d m_X12_isRoomFor 71 [(0, .ref 100), (1, .int x1), (2, .int x2), (3, .int x3), (4, .int j4), (5, .int j5)] [.int (Int32.ofInt 1)] S R _
        exact u_retb rfl rfl ⟨_, rfl, rfl, hD⟩
      · have hD := hD.2 h1
        show u_P L xs m d m_X12_isRoomFor 7 [(0, .ref 100), (1, .int x1), (2, .int x2), (3, .int x3), (4, .int j4), (5, .int j5)] [] S R _
        refine u_st rfl (fun _ => rfl) ?_
        refine u_st rfl (fun _ => rfl) ?_
        refine u_st rfl (fun _ => rfl) ?_
        refine u_st rfl (fun _ => rfl) ?_
        refine u_lc (b := [(0, .ref 100), (1, .int x1), (2, .int x2), (3, .int x3), (4, .int (Int32.ofInt 0)), (5, .int (Int32.ofInt 0))]) (show ([5, 4, 0, 1, 2, 3] : List Nat).Nodup by decide) (show ([0, 1, 2, 3, 4, 5] : List Nat).Nodup by decide) (fun i => match i with | 0 => rfl | 1 => rfl | 2 => rfl | 3 => rfl | 4 => rfl | 5 => rfl | _ + 6 => rfl) ?_
        exact (ih m hm).2.2 d x1 x2 x3 (Int32.ofInt 0) (Int32.ofInt 0) S hD
    · intro d x1 x2 x3 x4 x5 S hD
      have hD := k13 x1 x2 x3 x4 x5 S hD
      unfold D_X12_isRoomFor_13 at hD
      show u_P L xs n d m_X12_isRoomFor 13 [(0, .ref 100), (1, .int x1), (2, .int x2), (3, .int x3), (4, .int x4), (5, .int x5)] [] S R _
      refine u_st1 rfl (fun _ => rfl) (fun m hm => ?_)
      refine u_st rfl (fun _ => rfl) ?_
      show u_P L xs m d m_X12_isRoomFor 16 [(0, .ref 100), (1, .int x1), (2, .int x2), (3, .int x3), (4, .int x4), (5, .int x5)] [.int x1, .int x5] S R _
      refine u_ic_ge rfl (fun h1 => ?_) (fun h1 => ?_)
      · have hD := hD.1 h1
        show u_P L xs m d m_X12_isRoomFor 46 [(0, .ref 100), (1, .int x1), (2, .int x2), (3, .int x3), (4, .int x4), (5, .int x5)] [] S R _
        refine u_st rfl (fun _ => rfl) ?_
        refine u_st rfl (fun _ => rfl) ?_
        show u_P L xs m d m_X12_isRoomFor 49 [(0, .ref 100), (1, .int x1), (2, .int x2), (3, .int x3), (4, .int x4), (5, .int x5)] [.ref 100, .int x4] S R _
        refine u_getr rfl v_tyM rfl ?_
        refine u_st rfl (fun _ => rfl) ?_
        show u_P L xs m d m_X12_isRoomFor 53 [(0, .ref 100), (1, .int x1), (2, .int x2), (3, .int x3), (4, .int x4), (5, .int x5)] [.ref 100, .ref 124, .int x4] S R _
        refine u_getr rfl v_tyM rfl ?_
        refine u_st rfl (fun _ => rfl) ?_
        show u_P L xs m d m_X12_isRoomFor 57 [(0, .ref 100), (1, .int x1), (2, .int x2), (3, .int x3), (4, .int x4), (5, .int x5)] [.int x3, .ref 154, .ref 124, .int x4] S R _
        refine u_ialdE (v := S 153 x3.toInt.toNat) rfl rfl rfl (fun b21 b22 => ?_)
        have hD := hD b21 b22
        show u_P L xs m d m_X12_isRoomFor 58 [(0, .ref 100), (1, .int x1), (2, .int x2), (3, .int x3), (4, .int x4), (5, .int x5)] [.int (S 153 x3.toInt.toNat), .ref 124, .int x4] S R _
        refine u_ialdE (v := S 123 ((S 153 x3.toInt.toNat).toInt.toNat)) rfl rfl rfl (fun b31 b32 => ?_)
        have hD := hD b31 b32
        show u_P L xs m d m_X12_isRoomFor 59 [(0, .ref 100), (1, .int x1), (2, .int x2), (3, .int x3), (4, .int x4), (5, .int x5)] [.int (S 123 ((S 153 x3.toInt.toNat).toInt.toNat)), .int x4] S R _
        refine u_ic_le rfl (fun h4 => ?_) (fun h4 => ?_)
        · have hD := hD.1 h4
          show u_P L xs m d m_X12_isRoomFor 64 [(0, .ref 100), (1, .int x1), (2, .int x2), (3, .int x3), (4, .int x4), (5, .int x5)] [] S R _
          refine u_st rfl (fun _ => rfl) ?_
          refine u_st rfl (fun _ => rfl) ?_
          refine u_lc (b := [(0, .ref 100), (1, .int x1), (2, .int x2), (3, .int (x3 + (Int32.ofInt 1))), (4, .int x4), (5, .int x5)]) (show ([3, 0, 1, 2, 4, 5] : List Nat).Nodup by decide) (show ([0, 1, 2, 3, 4, 5] : List Nat).Nodup by decide) (fun i => match i with | 0 => rfl | 1 => rfl | 2 => rfl | 3 => rfl | 4 => rfl | 5 => rfl | _ + 6 => rfl) ?_
          exact (ih m hm).2.1 d x4 x5 x1 x2 (x3 + (Int32.ofInt 1)) S hD
        · have hD := hD.2 h4
          show u_P L xs m d m_X12_isRoomFor 62 [(0, .ref 100), (1, .int x1), (2, .int x2), (3, .int x3), (4, .int x4), (5, .int x5)] [] S R _
          refine u_st rfl (fun _ => rfl) ?_
          show u_P L xs m d m_X12_isRoomFor 63 [(0, .ref 100), (1, .int x1), (2, .int x2), (3, .int x3), (4, .int x4), (5, .int x5)] [.int (Int32.ofInt 0)] S R _
          exact u_retb rfl rfl ⟨_, rfl, rfl, hD⟩
      · have hD := hD.2 h1
        show u_P L xs m d m_X12_isRoomFor 19 [(0, .ref 100), (1, .int x1), (2, .int x2), (3, .int x3), (4, .int x4), (5, .int x5)] [] S R _
        refine u_st rfl (fun _ => rfl) ?_
        refine u_st rfl (fun _ => rfl) ?_
        show u_P L xs m d m_X12_isRoomFor 22 [(0, .ref 100), (1, .int x1), (2, .int x2), (3, .int x3), (4, .int x4), (5, .int x5)] [.ref 100, .int x4] S R _
        refine u_getr rfl v_tyM rfl ?_
        refine u_st rfl (fun _ => rfl) ?_
        show u_P L xs m d m_X12_isRoomFor 27 [(0, .ref 100), (1, .int x1), (2, .int x2), (3, .int x3), (4, .int x4), (5, .int x5)] [.int x5, .ref 155, .int x4] S R _
        refine u_ialdE (v := S 154 x5.toInt.toNat) rfl rfl rfl (fun b51 b52 => ?_)
        have hD := hD b51 b52
        show u_P L xs m d m_X12_isRoomFor 28 [(0, .ref 100), (1, .int x1), (2, .int x2), (3, .int x3), (4, .int x4), (5, .int x5)] [.int (S 154 x5.toInt.toNat), .int x4] S R _
        refine u_st rfl (fun _ => rfl) ?_
        show u_P L xs m d m_X12_isRoomFor 29 [(0, .ref 100), (1, .int x1), (2, .int x2), (3, .int x3), (4, .int x4), (5, .int x5)] [.int x3, .int (S 154 x5.toInt.toNat), .int x4] S R _
        refine u_ic_ne rfl (fun h6 => ?_) (fun h6 => ?_)
        · have hD := hD.1 h6
          show u_P L xs m d m_X12_isRoomFor 36 [(0, .ref 100), (1, .int x1), (2, .int x2), (3, .int x3), (4, .int x4), (5, .int x5)] [.int x4] S R _
          refine u_st rfl (fun _ => rfl) ?_
          refine u_st rfl (fun _ => rfl) ?_
          refine u_st rfl (fun _ => rfl) ?_
          refine u_st rfl (fun _ => rfl) ?_
          refine u_st rfl (fun _ => rfl) ?_
          refine u_lc (b := [(0, .ref 100), (1, .int x1), (2, .int x2), (3, .int x3), (4, .int (x4 + (Int32.ofInt 0))), (5, .int (x5 + (Int32.ofInt 1)))]) (show ([5, 4, 0, 1, 2, 3] : List Nat).Nodup by decide) (show ([0, 1, 2, 3, 4, 5] : List Nat).Nodup by decide) (fun i => match i with | 0 => rfl | 1 => rfl | 2 => rfl | 3 => rfl | 4 => rfl | 5 => rfl | _ + 6 => rfl) ?_
          exact (ih m hm).2.2 d x1 x2 x3 (x4 + (Int32.ofInt 0)) (x5 + (Int32.ofInt 1)) S hD
        · have hD := hD.2 h6
          show u_P L xs m d m_X12_isRoomFor 32 [(0, .ref 100), (1, .int x1), (2, .int x2), (3, .int x3), (4, .int x4), (5, .int x5)] [.int x4] S R _
          refine u_st rfl (fun _ => rfl) ?_
          refine u_st rfl (fun _ => rfl) ?_
          refine u_st rfl (fun _ => rfl) ?_
          refine u_st rfl (fun _ => rfl) ?_
          refine u_st rfl (fun _ => rfl) ?_
          refine u_st rfl (fun _ => rfl) ?_
          refine u_lc (b := [(0, .ref 100), (1, .int x1), (2, .int x2), (3, .int x3), (4, .int (x4 + (Int32.ofInt 1))), (5, .int (x5 + (Int32.ofInt 1)))]) (show ([5, 4, 0, 1, 2, 3] : List Nat).Nodup by decide) (show ([0, 1, 2, 3, 4, 5] : List Nat).Nodup by decide) (fun i => match i with | 0 => rfl | 1 => rfl | 2 => rfl | 3 => rfl | 4 => rfl | 5 => rfl | _ + 6 => rfl) ?_
          exact (ih m hm).2.2 d x1 x2 x3 (x4 + (Int32.ofInt 1)) (x5 + (Int32.ofInt 1)) S hD
set_option maxRecDepth 4000 in
theorem w_X12_isRoomFor (L : Nat) (xs : Nat → Int32) {R : v_Rf} (a : Int32) (b : Int32) (H2 : Int32 → Int32 → Int32 → v_Sf → Prop) (H13 : Int32 → Int32 → Int32 → Int32 → Int32 → v_Sf → Prop) (K : Int32 → v_Sf → Prop) (k2 : ∀ (x1 : Int32) (x2 : Int32) (x3 : Int32) (S : v_Sf), H2 x1 x2 x3 S → D_X12_isRoomFor_2 H2 H13 K x1 x2 x3 S) (k13 : ∀ (x1 : Int32) (x2 : Int32) (x3 : Int32) (x4 : Int32) (x5 : Int32) (S : v_Sf), H13 x1 x2 x3 x4 x5 S → D_X12_isRoomFor_13 H2 H13 K x1 x2 x3 x4 x5 S) (n d : Nat) (S : v_Sf) (hD : D_X12_isRoomFor a b H2 H13 K S) : u_P L xs n d m_X12_isRoomFor 0 (lv_args 0 [.ref 100, .int a, .int b]) [] S R (z_Q R K) := by
  unfold D_X12_isRoomFor at hD
  show u_P L xs n d m_X12_isRoomFor 0 [(0, .ref 100), (1, .int a), (2, .int b)] [] S R _
  refine u_st rfl (fun _ => rfl) ?_
  refine u_st rfl (fun _ => rfl) ?_
  refine u_lc (b := [(0, .ref 100), (1, .int a), (2, .int b), (3, .int (Int32.ofInt 0))]) (show ([3, 0, 1, 2] : List Nat).Nodup by decide) (show ([0, 1, 2, 3] : List Nat).Nodup by decide) (fun i => match i with | 0 => rfl | 1 => rfl | 2 => rfl | 3 => rfl | _ + 4 => rfl) ?_
  exact (hd_X12_isRoomFor L xs a b H2 H13 K k2 k13 n).1 d a b (Int32.ofInt 0) S hD
noncomputable def r_X12_isRoomFor_13 (x1 : Int32) (x2 : Int32) (S : v_Sf) (κ2 : Int32) (k2 : Nat) : Nat → Nat → Int32 → Int32
  | 0, k13, x4 => (if x4 ≤ (S 123 ((S 153 (z_i k2).toInt.toNat).toInt.toNat)) then κ2 else Int32.ofInt 0)
  | r + 1, k13, x4 => (if ¬ (S 154 (z_i k13).toInt.toNat) = (z_i k2) then r_X12_isRoomFor_13 x1 x2 S κ2 k2 r (k13 + 1) (x4 + (Int32.ofInt 0)) else r_X12_isRoomFor_13 x1 x2 S κ2 k2 r (k13 + 1) (x4 + (Int32.ofInt 1)))
noncomputable def r_X12_isRoomFor_2 (x1 : Int32) (x2 : Int32) (S : v_Sf) : Nat → Nat → Int32
  | 0, k2 => Int32.ofInt 1
  | r + 1, k2 => r_X12_isRoomFor_13 x1 x2 S (r_X12_isRoomFor_2 x1 x2 S r (k2 + 1)) k2 (x1.toInt.toNat - 0) 0 (Int32.ofInt 0)
noncomputable def F_X12_isRoomFor (a : Int32) (b : Int32) (S : v_Sf) : Int32 := r_X12_isRoomFor_2 a b S (b.toInt.toNat - 0) 0
noncomputable def f_X12_isRoomFor (a : Int32) (b : Int32) (S : v_Sf) : Int32 := F_X12_isRoomFor a b S
theorem c_X12_isRoomFor (L : Nat) (xs : Nat → Int32) (n d : Nat) (a : Int32) (b : Int32) (S : v_Sf) (R : v_Rf) : u_P L xs n d m_X12_isRoomFor 0 (lv_args 0 [.ref 100, .int a, .int b]) [] S R (z_Q R (fun v S1 => f_X12_isRoomFor a b S = v ∧ S = S1)) := by
  refine w_X12_isRoomFor L xs a b (fun y1 y2 y3 T => ∃ (k2 : Nat), k2 ≤ b.toInt.toNat ∧ z_i k2 = y3 ∧ a = y1 ∧ b = y2 ∧ S = T ∧ r_X12_isRoomFor_2 a b S (b.toInt.toNat - k2) k2 = F_X12_isRoomFor a b S) (fun y1 y2 y3 y4 y5 T => ∃ (k2 k13 : Nat), k13 ≤ a.toInt.toNat ∧ z_i k13 = y5 ∧ k2 < b.toInt.toNat ∧ z_i k2 = y3 ∧ a = y1 ∧ b = y2 ∧ S = T ∧ r_X12_isRoomFor_13 a b S (r_X12_isRoomFor_2 a b S (b.toInt.toNat - (k2 + 1)) (k2 + 1)) k2 (a.toInt.toNat - k13) k13 y4 = F_X12_isRoomFor a b S) (fun v S1 => f_X12_isRoomFor a b S = v ∧ S = S1) ?_ ?_ n d S ?_
  · rintro _ _ _ _ ⟨k2, hkk, rfl, rfl, rfl, rfl, e⟩
    unfold D_X12_isRoomFor_2
    rcases Nat.lt_or_ge k2 (b.toInt.toNat) with hk | hk
    · rw [show b.toInt.toNat - k2 = (b.toInt.toNat - (k2 + 1)) + 1 by omega, r_X12_isRoomFor_2] at e
      refine ⟨fun q1 => ?_, fun q1 => ?_⟩
      · exact absurd hk (Nat.not_lt.mpr (z_leV q1 (by omega)))
      · exact ⟨k2, 0, by omega, rfl, by omega, rfl, rfl, rfl, rfl, e⟩
    · rw [show b.toInt.toNat - k2 = 0 by omega, r_X12_isRoomFor_2] at e
      refine ⟨fun q2 => ?_, fun q2 => ?_⟩
      · exact ⟨e.symm, rfl⟩
      · exact absurd hk (Nat.not_le.mpr (z_ltV q2 (by omega)))
  · rintro _ _ _ x4 _ _ ⟨k2, k13, hkk, rfl, hk2, rfl, rfl, rfl, rfl, e⟩
    unfold D_X12_isRoomFor_13
    rcases Nat.lt_or_ge k13 (a.toInt.toNat) with hk | hk
    · rw [show a.toInt.toNat - k13 = (a.toInt.toNat - (k13 + 1)) + 1 by omega, r_X12_isRoomFor_13] at e
      refine ⟨fun q3 => ?_, fun q3 => ?_⟩
      · exact absurd hk (Nat.not_lt.mpr (z_leV q3 (by omega)))
      · intro _ _
        refine ⟨fun q4 => ?_, fun q4 => ?_⟩
        · rw [if_pos q4] at e
          exact ⟨k2, (k13 + 1), by omega, (z_i1 k13).symm, by omega, rfl, rfl, rfl, rfl, e⟩
        · rw [if_neg q4] at e
          exact ⟨k2, (k13 + 1), by omega, (z_i1 k13).symm, by omega, rfl, rfl, rfl, rfl, e⟩
    · rw [show a.toInt.toNat - k13 = 0 by omega, r_X12_isRoomFor_13] at e
      refine ⟨fun q5 => ?_, fun q5 => ?_⟩
      · intro _ _
        intro _ _
        refine ⟨fun q6 => ?_, fun q6 => ?_⟩
        · rw [if_pos q6] at e
          exact ⟨(k2 + 1), by omega, (z_i1 k2).symm, rfl, rfl, rfl, e⟩
        · rw [if_neg q6] at e
          exact ⟨e.symm, rfl⟩
      · exact absurd hk (Nat.not_le.mpr (z_ltV q5 (by omega)))
  · unfold D_X12_isRoomFor
    have e : r_X12_isRoomFor_2 a b S (b.toInt.toNat - 0) 0 = F_X12_isRoomFor a b S := by rw [F_X12_isRoomFor]
    exact ⟨0, by omega, rfl, rfl, rfl, rfl, e⟩
noncomputable abbrev m_X12_twosIn : g_M := (g_cn 12, yX12_twosIn, cX12_twosIn, 5, (some .int), g_look2 ttX12_twosIn)
set_option maxRecDepth 20000 in
theorem mt_X12_twosIn : g_mt 258 = some m_X12_twosIn := rfl
noncomputable def D_X12_twosIn_4  (H4 : Int32 → Int32 → Int32 → v_Sf → Prop) (H12 : Int32 → Int32 → Int32 → Int32 → v_Sf → Prop) (K : Int32 → v_Sf → Prop) (x1 : Int32) (x2 : Int32) (x3 : Int32) (S : v_Sf) : Prop := ((x1 ≤ x3 → K x2 S) ∧ (¬ (x1 ≤ x3) → H12 x1 x2 x3 (Int32.ofInt 0) S))
noncomputable def D_X12_twosIn_12  (H4 : Int32 → Int32 → Int32 → v_Sf → Prop) (H12 : Int32 → Int32 → Int32 → Int32 → v_Sf → Prop) (K : Int32 → v_Sf → Prop) (x1 : Int32) (x2 : Int32) (x3 : Int32) (x4 : Int32) (S : v_Sf) : Prop := ((x3 ≤ x4 → H4 x1 x2 (x3 + (Int32.ofInt 1)) S) ∧ (¬ (x3 ≤ x4) → (0 ≤ x3.toInt → x3.toInt < 8 → (0 ≤ x4.toInt → x4.toInt < 8 → (((¬ (S 154 x3.toInt.toNat) = (S 154 x4.toInt.toNat)) → H12 x1 x2 x3 (x4 + (Int32.ofInt 1)) S) ∧ (¬ (¬ (S 154 x3.toInt.toNat) = (S 154 x4.toInt.toNat)) → (0 ≤ x3.toInt → x3.toInt < 12 → (0 ≤ x4.toInt → x4.toInt < 12 → (((f_X12_doQuarrel (S 152 x3.toInt.toNat) (S 152 x4.toInt.toNat) S) = 0 → H12 x1 x2 x3 (x4 + (Int32.ofInt 1)) (g_X12_doQuarrel (S 152 x3.toInt.toNat) (S 152 x4.toInt.toNat) S)) ∧ (¬ ((f_X12_doQuarrel (S 152 x3.toInt.toNat) (S 152 x4.toInt.toNat) S) = 0) → H12 x1 (x2 + (Int32.ofInt 1)) x3 (x4 + (Int32.ofInt 1)) (g_X12_doQuarrel (S 152 x3.toInt.toNat) (S 152 x4.toInt.toNat) S)))))))))))
noncomputable def D_X12_twosIn (a : Int32) (H4 : Int32 → Int32 → Int32 → v_Sf → Prop) (H12 : Int32 → Int32 → Int32 → Int32 → v_Sf → Prop) (K : Int32 → v_Sf → Prop) (S : v_Sf) : Prop := H4 a (Int32.ofInt 0) (Int32.ofInt 0) S
set_option maxRecDepth 4000 in
theorem hd_X12_twosIn (L : Nat) (xs : Nat → Int32) {R : v_Rf} (a : Int32) (H4 : Int32 → Int32 → Int32 → v_Sf → Prop) (H12 : Int32 → Int32 → Int32 → Int32 → v_Sf → Prop) (K : Int32 → v_Sf → Prop) (k4 : ∀ (x1 : Int32) (x2 : Int32) (x3 : Int32) (S : v_Sf), H4 x1 x2 x3 S → D_X12_twosIn_4 H4 H12 K x1 x2 x3 S) (k12 : ∀ (x1 : Int32) (x2 : Int32) (x3 : Int32) (x4 : Int32) (S : v_Sf), H12 x1 x2 x3 x4 S → D_X12_twosIn_12 H4 H12 K x1 x2 x3 x4 S) : ∀ n, (∀ (d : Nat) (x1 : Int32) (x2 : Int32) (x3 : Int32) (S : v_Sf), H4 x1 x2 x3 S → u_P L xs n d m_X12_twosIn 4 [(0, .ref 100), (1, .int x1), (2, .int x2), (3, .int x3)] [] S R (z_Q R K)) ∧ (∀ (d : Nat) (j4 : Int32) (x1 : Int32) (x2 : Int32) (x3 : Int32) (S : v_Sf), H4 x1 x2 x3 S → u_P L xs n d m_X12_twosIn 4 [(0, .ref 100), (1, .int x1), (2, .int x2), (3, .int x3), (4, .int j4)] [] S R (z_Q R K)) ∧ (∀ (d : Nat) (x1 : Int32) (x2 : Int32) (x3 : Int32) (x4 : Int32) (S : v_Sf), H12 x1 x2 x3 x4 S → u_P L xs n d m_X12_twosIn 12 [(0, .ref 100), (1, .int x1), (2, .int x2), (3, .int x3), (4, .int x4)] [] S R (z_Q R K)) := by
  intro n
  induction n using Nat.strongRecOn with
  | ind n ih =>
    refine ⟨?_, ?_, ?_⟩
    · intro d x1 x2 x3 S hD
      have hD := k4 x1 x2 x3 S hD
      unfold D_X12_twosIn_4 at hD
      show u_P L xs n d m_X12_twosIn 4 [(0, .ref 100), (1, .int x1), (2, .int x2), (3, .int x3)] [] S R _
      refine u_st1 rfl (fun _ => rfl) (fun m hm => ?_)
      refine u_st rfl (fun _ => rfl) ?_
      show u_P L xs m d m_X12_twosIn 6 [(0, .ref 100), (1, .int x1), (2, .int x2), (3, .int x3)] [.int x1, .int x3] S R _
      refine u_ic_ge rfl (fun h1 => ?_) (fun h1 => ?_)
      · have hD := hD.1 h1
        show u_P L xs m d m_X12_twosIn 69 [(0, .ref 100), (1, .int x1), (2, .int x2), (3, .int x3)] [] S R _
        refine u_st rfl (fun _ => rfl) ?_
        show u_P L xs m d m_X12_twosIn 70 [(0, .ref 100), (1, .int x1), (2, .int x2), (3, .int x3)] [.int x2] S R _
        exact u_ret rfl rfl ⟨_, rfl, rfl, hD⟩
      · have hD := hD.2 h1
        show u_P L xs m d m_X12_twosIn 9 [(0, .ref 100), (1, .int x1), (2, .int x2), (3, .int x3)] [] S R _
        refine u_st rfl (fun _ => rfl) ?_
        refine u_st rfl (fun _ => rfl) ?_
        refine u_lc (b := [(0, .ref 100), (1, .int x1), (2, .int x2), (3, .int x3), (4, .int (Int32.ofInt 0))]) (show ([4, 0, 1, 2, 3] : List Nat).Nodup by decide) (show ([0, 1, 2, 3, 4] : List Nat).Nodup by decide) (fun i => match i with | 0 => rfl | 1 => rfl | 2 => rfl | 3 => rfl | 4 => rfl | _ + 5 => rfl) ?_
        exact (ih m hm).2.2 d x1 x2 x3 (Int32.ofInt 0) S hD
    · intro d j4 x1 x2 x3 S hD
      have hD := k4 x1 x2 x3 S hD
      unfold D_X12_twosIn_4 at hD
      show u_P L xs n d m_X12_twosIn 4 [(0, .ref 100), (1, .int x1), (2, .int x2), (3, .int x3), (4, .int j4)] [] S R _
      refine u_st1 rfl (fun _ => rfl) (fun m hm => ?_)
      refine u_st rfl (fun _ => rfl) ?_
      show u_P L xs m d m_X12_twosIn 6 [(0, .ref 100), (1, .int x1), (2, .int x2), (3, .int x3), (4, .int j4)] [.int x1, .int x3] S R _
      refine u_ic_ge rfl (fun h1 => ?_) (fun h1 => ?_)
      · have hD := hD.1 h1
        show u_P L xs m d m_X12_twosIn 69 [(0, .ref 100), (1, .int x1), (2, .int x2), (3, .int x3), (4, .int j4)] [] S R _
        refine u_st rfl (fun _ => rfl) ?_
        show u_P L xs m d m_X12_twosIn 70 [(0, .ref 100), (1, .int x1), (2, .int x2), (3, .int x3), (4, .int j4)] [.int x2] S R _
        exact u_ret rfl rfl ⟨_, rfl, rfl, hD⟩
      · have hD := hD.2 h1
        show u_P L xs m d m_X12_twosIn 9 [(0, .ref 100), (1, .int x1), (2, .int x2), (3, .int x3), (4, .int j4)] [] S R _
        refine u_st rfl (fun _ => rfl) ?_
        refine u_st rfl (fun _ => rfl) ?_
        refine u_lc (b := [(0, .ref 100), (1, .int x1), (2, .int x2), (3, .int x3), (4, .int (Int32.ofInt 0))]) (show ([4, 0, 1, 2, 3] : List Nat).Nodup by decide) (show ([0, 1, 2, 3, 4] : List Nat).Nodup by decide) (fun i => match i with | 0 => rfl | 1 => rfl | 2 => rfl | 3 => rfl | 4 => rfl | _ + 5 => rfl) ?_
        exact (ih m hm).2.2 d x1 x2 x3 (Int32.ofInt 0) S hD
    · intro d x1 x2 x3 x4 S hD
      have hD := k12 x1 x2 x3 x4 S hD
      unfold D_X12_twosIn_12 at hD
      show u_P L xs n d m_X12_twosIn 12 [(0, .ref 100), (1, .int x1), (2, .int x2), (3, .int x3), (4, .int x4)] [] S R _
      refine u_st1 rfl (fun _ => rfl) (fun m hm => ?_)
      refine u_st rfl (fun _ => rfl) ?_
      show u_P L xs m d m_X12_twosIn 15 [(0, .ref 100), (1, .int x1), (2, .int x2), (3, .int x3), (4, .int x4)] [.int x3, .int x4] S R _
      refine u_ic_ge rfl (fun h1 => ?_) (fun h1 => ?_)
      · have hD := hD.1 h1
        show u_P L xs m d m_X12_twosIn 63 [(0, .ref 100), (1, .int x1), (2, .int x2), (3, .int x3), (4, .int x4)] [] S R _
        refine u_st rfl (fun _ => rfl) ?_
        refine u_st rfl (fun _ => rfl) ?_
        refine u_lc (b := [(0, .ref 100), (1, .int x1), (2, .int x2), (3, .int (x3 + (Int32.ofInt 1))), (4, .int x4)]) (show ([3, 0, 1, 2, 4] : List Nat).Nodup by decide) (show ([0, 1, 2, 3, 4] : List Nat).Nodup by decide) (fun i => match i with | 0 => rfl | 1 => rfl | 2 => rfl | 3 => rfl | 4 => rfl | _ + 5 => rfl) ?_
        exact (ih m hm).2.1 d x4 x1 x2 (x3 + (Int32.ofInt 1)) S hD
      · have hD := hD.2 h1
        show u_P L xs m d m_X12_twosIn 18 [(0, .ref 100), (1, .int x1), (2, .int x2), (3, .int x3), (4, .int x4)] [] S R _
        refine u_st rfl (fun _ => rfl) ?_
        show u_P L xs m d m_X12_twosIn 19 [(0, .ref 100), (1, .int x1), (2, .int x2), (3, .int x3), (4, .int x4)] [.ref 100] S R _
        refine u_getr rfl v_tyM rfl ?_
        refine u_st rfl (fun _ => rfl) ?_
        show u_P L xs m d m_X12_twosIn 23 [(0, .ref 100), (1, .int x1), (2, .int x2), (3, .int x3), (4, .int x4)] [.int x3, .ref 155] S R _
        refine u_ialdE (v := S 154 x3.toInt.toNat) rfl rfl rfl (fun b21 b22 => ?_)
        have hD := hD b21 b22
        show u_P L xs m d m_X12_twosIn 24 [(0, .ref 100), (1, .int x1), (2, .int x2), (3, .int x3), (4, .int x4)] [.int (S 154 x3.toInt.toNat)] S R _
        refine u_st rfl (fun _ => rfl) ?_
        show u_P L xs m d m_X12_twosIn 25 [(0, .ref 100), (1, .int x1), (2, .int x2), (3, .int x3), (4, .int x4)] [.ref 100, .int (S 154 x3.toInt.toNat)] S R _
        refine u_getr rfl v_tyM rfl ?_
        refine u_st rfl (fun _ => rfl) ?_
        show u_P L xs m d m_X12_twosIn 30 [(0, .ref 100), (1, .int x1), (2, .int x2), (3, .int x3), (4, .int x4)] [.int x4, .ref 155, .int (S 154 x3.toInt.toNat)] S R _
        refine u_ialdE (v := S 154 x4.toInt.toNat) rfl rfl rfl (fun b31 b32 => ?_)
        have hD := hD b31 b32
        show u_P L xs m d m_X12_twosIn 31 [(0, .ref 100), (1, .int x1), (2, .int x2), (3, .int x3), (4, .int x4)] [.int (S 154 x4.toInt.toNat), .int (S 154 x3.toInt.toNat)] S R _
        refine u_ic_ne rfl (fun h4 => ?_) (fun h4 => ?_)
        · have hD := hD.1 h4
          show u_P L xs m d m_X12_twosIn 57 [(0, .ref 100), (1, .int x1), (2, .int x2), (3, .int x3), (4, .int x4)] [] S R _
          refine u_st rfl (fun _ => rfl) ?_
          refine u_st rfl (fun _ => rfl) ?_
          refine u_lc (b := [(0, .ref 100), (1, .int x1), (2, .int x2), (3, .int x3), (4, .int (x4 + (Int32.ofInt 1)))]) (show ([4, 0, 1, 2, 3] : List Nat).Nodup by decide) (show ([0, 1, 2, 3, 4] : List Nat).Nodup by decide) (fun i => match i with | 0 => rfl | 1 => rfl | 2 => rfl | 3 => rfl | 4 => rfl | _ + 5 => rfl) ?_
          exact (ih m hm).2.2 d x1 x2 x3 (x4 + (Int32.ofInt 1)) S hD
        · have hD := hD.2 h4
          show u_P L xs m d m_X12_twosIn 34 [(0, .ref 100), (1, .int x1), (2, .int x2), (3, .int x3), (4, .int x4)] [] S R _
          refine u_st rfl (fun _ => rfl) ?_
          refine u_st rfl (fun _ => rfl) ?_
          show u_P L xs m d m_X12_twosIn 36 [(0, .ref 100), (1, .int x1), (2, .int x2), (3, .int x3), (4, .int x4)] [.ref 100, .ref 100] S R _
          refine u_getr rfl v_tyM rfl ?_
          refine u_st rfl (fun _ => rfl) ?_
          show u_P L xs m d m_X12_twosIn 40 [(0, .ref 100), (1, .int x1), (2, .int x2), (3, .int x3), (4, .int x4)] [.int x3, .ref 153, .ref 100] S R _
          refine u_ialdE (v := S 152 x3.toInt.toNat) rfl rfl rfl (fun b51 b52 => ?_)
          have hD := hD b51 b52
          show u_P L xs m d m_X12_twosIn 41 [(0, .ref 100), (1, .int x1), (2, .int x2), (3, .int x3), (4, .int x4)] [.int (S 152 x3.toInt.toNat), .ref 100] S R _
          refine u_st rfl (fun _ => rfl) ?_
          show u_P L xs m d m_X12_twosIn 42 [(0, .ref 100), (1, .int x1), (2, .int x2), (3, .int x3), (4, .int x4)] [.ref 100, .int (S 152 x3.toInt.toNat), .ref 100] S R _
          refine u_getr rfl v_tyM rfl ?_
          refine u_st rfl (fun _ => rfl) ?_
          show u_P L xs m d m_X12_twosIn 47 [(0, .ref 100), (1, .int x1), (2, .int x2), (3, .int x3), (4, .int x4)] [.int x4, .ref 153, .int (S 152 x3.toInt.toNat), .ref 100] S R _
          refine u_ialdE (v := S 152 x4.toInt.toNat) rfl rfl rfl (fun b61 b62 => ?_)
          have hD := hD b61 b62
          show u_P L xs m d m_X12_twosIn 48 [(0, .ref 100), (1, .int x1), (2, .int x2), (3, .int x3), (4, .int x4)] [.int (S 152 x4.toInt.toNat), .int (S 152 x3.toInt.toNat), .ref 100] S R _
          refine u_cv (rest := []) rfl (by decide) mt_X12_doQuarrel v_tyM rfl rfl rfl (Nat.le_of_ble_eq_true rfl) (Nat.le_of_ble_eq_true rfl) (Nat.le_of_ble_eq_true rfl) (fun d' => c_X12_doQuarrel L xs m d' (S 152 x3.toInt.toNat) (S 152 x4.toInt.toNat) S R) ?_
          rintro _ _ _ ⟨_, rfl, rfl, rfl, rfl⟩
          show u_P L xs m d m_X12_twosIn 51 [(0, .ref 100), (1, .int x1), (2, .int x2), (3, .int x3), (4, .int x4)] [.int (f_X12_doQuarrel (S 152 x3.toInt.toNat) (S 152 x4.toInt.toNat) S)] (g_X12_doQuarrel (S 152 x3.toInt.toNat) (S 152 x4.toInt.toNat) S) R _
          refine u_if_eq rfl (fun h7 => ?_) (fun h7 => ?_)
          · have hD := hD.1 h7
            show u_P L xs m d m_X12_twosIn 57 [(0, .ref 100), (1, .int x1), (2, .int x2), (3, .int x3), (4, .int x4)] [] (g_X12_doQuarrel (S 152 x3.toInt.toNat) (S 152 x4.toInt.toNat) S) R _
            refine u_st rfl (fun _ => rfl) ?_
            refine u_st rfl (fun _ => rfl) ?_
            refine u_lc (b := [(0, .ref 100), (1, .int x1), (2, .int x2), (3, .int x3), (4, .int (x4 + (Int32.ofInt 1)))]) (show ([4, 0, 1, 2, 3] : List Nat).Nodup by decide) (show ([0, 1, 2, 3, 4] : List Nat).Nodup by decide) (fun i => match i with | 0 => rfl | 1 => rfl | 2 => rfl | 3 => rfl | 4 => rfl | _ + 5 => rfl) ?_
            exact (ih m hm).2.2 d x1 x2 x3 (x4 + (Int32.ofInt 1)) (g_X12_doQuarrel (S 152 x3.toInt.toNat) (S 152 x4.toInt.toNat) S) hD
          · have hD := hD.2 h7
            show u_P L xs m d m_X12_twosIn 54 [(0, .ref 100), (1, .int x1), (2, .int x2), (3, .int x3), (4, .int x4)] [] (g_X12_doQuarrel (S 152 x3.toInt.toNat) (S 152 x4.toInt.toNat) S) R _
            refine u_st rfl (fun _ => rfl) ?_
            refine u_st rfl (fun _ => rfl) ?_
            refine u_st rfl (fun _ => rfl) ?_
            refine u_lc (b := [(0, .ref 100), (1, .int x1), (2, .int (x2 + (Int32.ofInt 1))), (3, .int x3), (4, .int (x4 + (Int32.ofInt 1)))]) (show ([4, 2, 0, 1, 3] : List Nat).Nodup by decide) (show ([0, 1, 2, 3, 4] : List Nat).Nodup by decide) (fun i => match i with | 0 => rfl | 1 => rfl | 2 => rfl | 3 => rfl | 4 => rfl | _ + 5 => rfl) ?_
            exact (ih m hm).2.2 d x1 (x2 + (Int32.ofInt 1)) x3 (x4 + (Int32.ofInt 1)) (g_X12_doQuarrel (S 152 x3.toInt.toNat) (S 152 x4.toInt.toNat) S) hD
set_option maxRecDepth 4000 in
theorem w_X12_twosIn (L : Nat) (xs : Nat → Int32) {R : v_Rf} (a : Int32) (H4 : Int32 → Int32 → Int32 → v_Sf → Prop) (H12 : Int32 → Int32 → Int32 → Int32 → v_Sf → Prop) (K : Int32 → v_Sf → Prop) (k4 : ∀ (x1 : Int32) (x2 : Int32) (x3 : Int32) (S : v_Sf), H4 x1 x2 x3 S → D_X12_twosIn_4 H4 H12 K x1 x2 x3 S) (k12 : ∀ (x1 : Int32) (x2 : Int32) (x3 : Int32) (x4 : Int32) (S : v_Sf), H12 x1 x2 x3 x4 S → D_X12_twosIn_12 H4 H12 K x1 x2 x3 x4 S) (n d : Nat) (S : v_Sf) (hD : D_X12_twosIn a H4 H12 K S) : u_P L xs n d m_X12_twosIn 0 (lv_args 0 [.ref 100, .int a]) [] S R (z_Q R K) := by
  unfold D_X12_twosIn at hD
  show u_P L xs n d m_X12_twosIn 0 [(0, .ref 100), (1, .int a)] [] S R _
  refine u_st rfl (fun _ => rfl) ?_
  refine u_st rfl (fun _ => rfl) ?_
  refine u_st rfl (fun _ => rfl) ?_
  refine u_st rfl (fun _ => rfl) ?_
  refine u_lc (b := [(0, .ref 100), (1, .int a), (2, .int (Int32.ofInt 0)), (3, .int (Int32.ofInt 0))]) (show ([3, 2, 0, 1] : List Nat).Nodup by decide) (show ([0, 1, 2, 3] : List Nat).Nodup by decide) (fun i => match i with | 0 => rfl | 1 => rfl | 2 => rfl | 3 => rfl | _ + 4 => rfl) ?_
  exact (hd_X12_twosIn L xs a H4 H12 K k4 k12 n).1 d a (Int32.ofInt 0) (Int32.ofInt 0) S hD
noncomputable def r_X12_twosIn_12 (x1 : Int32) (κ4 : Int32 → v_Sf → Int32 × v_Sf) (k4 : Nat) : Nat → Nat → Int32 → v_Sf → Int32 × v_Sf
  | 0, k12, x2, S => κ4 x2 S
  | r + 1, k12, x2, S => (if ¬ (S 154 (z_i k4).toInt.toNat) = (S 154 (z_i k12).toInt.toNat) then r_X12_twosIn_12 x1 κ4 k4 r (k12 + 1) x2 S else (if (f_X12_doQuarrel (S 152 (z_i k4).toInt.toNat) (S 152 (z_i k12).toInt.toNat) S) = 0 then r_X12_twosIn_12 x1 κ4 k4 r (k12 + 1) x2 (g_X12_doQuarrel (S 152 (z_i k4).toInt.toNat) (S 152 (z_i k12).toInt.toNat) S) else r_X12_twosIn_12 x1 κ4 k4 r (k12 + 1) (x2 + (Int32.ofInt 1)) (g_X12_doQuarrel (S 152 (z_i k4).toInt.toNat) (S 152 (z_i k12).toInt.toNat) S)))
noncomputable def r_X12_twosIn_4 (x1 : Int32) : Nat → Nat → Int32 → v_Sf → Int32 × v_Sf
  | 0, k4, x2, S => (x2, S)
  | r + 1, k4, x2, S => r_X12_twosIn_12 x1 (fun v0 S => r_X12_twosIn_4 x1 r (k4 + 1) v0 S) k4 (k4 - 0) 0 x2 S
noncomputable def F_X12_twosIn (a : Int32) (S : v_Sf) : Int32 × v_Sf := r_X12_twosIn_4 a (a.toInt.toNat - 0) 0 (Int32.ofInt 0) S
noncomputable def f_X12_twosIn (a : Int32) (S : v_Sf) : Int32 := (F_X12_twosIn a S).1
noncomputable def g_X12_twosIn (a : Int32) (S : v_Sf) : v_Sf := (F_X12_twosIn a S).2
theorem c_X12_twosIn (L : Nat) (xs : Nat → Int32) (n d : Nat) (a : Int32) (S : v_Sf) (R : v_Rf) : u_P L xs n d m_X12_twosIn 0 (lv_args 0 [.ref 100, .int a]) [] S R (z_Q R (fun v S1 => f_X12_twosIn a S = v ∧ g_X12_twosIn a S = S1)) := by
  refine w_X12_twosIn L xs a (fun y1 y2 y3 T => ∃ (k4 : Nat), k4 ≤ a.toInt.toNat ∧ z_i k4 = y3 ∧ a = y1 ∧ r_X12_twosIn_4 a (a.toInt.toNat - k4) k4 y2 T = F_X12_twosIn a S) (fun y1 y2 y3 y4 T => ∃ (k4 k12 : Nat), k12 ≤ k4 ∧ z_i k12 = y4 ∧ k4 < a.toInt.toNat ∧ z_i k4 = y3 ∧ a = y1 ∧ r_X12_twosIn_12 a (fun v0 V => r_X12_twosIn_4 a (a.toInt.toNat - (k4 + 1)) (k4 + 1) v0 V) k4 (k4 - k12) k12 y2 T = F_X12_twosIn a S) (fun v S1 => f_X12_twosIn a S = v ∧ g_X12_twosIn a S = S1) ?_ ?_ n d S ?_
  · rintro _ x2 _ S1 ⟨k4, hkk, rfl, rfl, e⟩
    unfold D_X12_twosIn_4
    rcases Nat.lt_or_ge k4 (a.toInt.toNat) with hk | hk
    · rw [show a.toInt.toNat - k4 = (a.toInt.toNat - (k4 + 1)) + 1 by omega, r_X12_twosIn_4] at e
      refine ⟨fun q1 => ?_, fun q1 => ?_⟩
      · exact absurd hk (Nat.not_lt.mpr (z_leV q1 (by omega)))
      · exact ⟨k4, 0, by omega, rfl, by omega, rfl, rfl, e⟩
    · rw [show a.toInt.toNat - k4 = 0 by omega, r_X12_twosIn_4] at e
      refine ⟨fun q2 => ?_, fun q2 => ?_⟩
      · have e1 := congrArg Prod.fst e.symm
        have e2 := congrArg Prod.snd e.symm
        exact ⟨e1, e2⟩
      · exact absurd hk (Nat.not_le.mpr (z_ltV q2 (by omega)))
  · rintro _ x2 _ _ S1 ⟨k4, k12, hkk, rfl, hk4, rfl, rfl, e⟩
    unfold D_X12_twosIn_12
    have hb4 := z_b31 a
    rcases Nat.lt_or_ge k12 (k4) with hk | hk
    · rw [show k4 - k12 = (k4 - (k12 + 1)) + 1 by omega, r_X12_twosIn_12] at e
      refine ⟨fun q3 => ?_, fun q3 => ?_⟩
      · exact absurd hk (Nat.not_lt.mpr (z_leI q3 (by omega) (by omega)))
      · intro _ _
        intro _ _
        refine ⟨fun q4 => ?_, fun q4 => ?_⟩
        · rw [if_pos q4] at e
          exact ⟨k4, (k12 + 1), by omega, (z_i1 k12).symm, by omega, rfl, rfl, e⟩
        · intro _ _
          intro _ _
          refine ⟨fun q5 => ?_, fun q5 => ?_⟩
          · rw [if_neg q4, if_pos q5] at e
            exact ⟨k4, (k12 + 1), by omega, (z_i1 k12).symm, by omega, rfl, rfl, e⟩
          · rw [if_neg q4, if_neg q5] at e
            exact ⟨k4, (k12 + 1), by omega, (z_i1 k12).symm, by omega, rfl, rfl, e⟩
    · rw [show k4 - k12 = 0 by omega, r_X12_twosIn_12] at e
      refine ⟨fun q6 => ?_, fun q6 => ?_⟩
      · exact ⟨(k4 + 1), by omega, (z_i1 k4).symm, rfl, e⟩
      · exact absurd hk (Nat.not_le.mpr (z_ltI q6 (by omega) (by omega)))
  · unfold D_X12_twosIn
    have e : r_X12_twosIn_4 a (a.toInt.toNat - 0) 0 (Int32.ofInt 0) S = F_X12_twosIn a S := by rw [F_X12_twosIn]
    exact ⟨0, by omega, rfl, rfl, e⟩
noncomputable def D_X12_isOrder_4  (H4 : Int32 → Int32 → Int32 → v_Sf → Prop) (K : Int32 → v_Sf → Prop) (x1 : Int32) (x2 : Int32) (x3 : Int32) (S : v_Sf) : Prop := ((x1 ≤ x3 → (((¬ x2 = (((Int32.ofInt 1) <<< (x1 &&& 31)) - (Int32.ofInt 1))) → K (Int32.ofInt 0) S) ∧ (¬ (¬ x2 = (((Int32.ofInt 1) <<< (x1 &&& 31)) - (Int32.ofInt 1))) → K (Int32.ofInt 1) S))) ∧ (¬ (x1 ≤ x3) → (0 ≤ x3.toInt → x3.toInt < 8 → H4 x1 (x2 ||| ((Int32.ofInt 1) <<< ((S 154 x3.toInt.toNat) &&& 31))) (x3 + (Int32.ofInt 1)) S)))
noncomputable def D_X12_isOrder (a : Int32) (H4 : Int32 → Int32 → Int32 → v_Sf → Prop) (K : Int32 → v_Sf → Prop) (S : v_Sf) : Prop := H4 a (Int32.ofInt 0) (Int32.ofInt 0) S
set_option maxRecDepth 4000 in
theorem hd_X12_isOrder (L : Nat) (xs : Nat → Int32) {R : v_Rf} (a : Int32) (H4 : Int32 → Int32 → Int32 → v_Sf → Prop) (K : Int32 → v_Sf → Prop) (k4 : ∀ (x1 : Int32) (x2 : Int32) (x3 : Int32) (S : v_Sf), H4 x1 x2 x3 S → D_X12_isOrder_4 H4 K x1 x2 x3 S) : ∀ n, (∀ (d : Nat) (x1 : Int32) (x2 : Int32) (x3 : Int32) (S : v_Sf), H4 x1 x2 x3 S → u_P L xs n d m_X12_isOrder 4 [(0, .ref 100), (1, .int x1), (2, .int x2), (3, .int x3)] [] S R (z_Q R K)) := by
  intro n
  induction n using Nat.strongRecOn with
  | ind n ih =>
    intro d x1 x2 x3 S hD
    have hD := k4 x1 x2 x3 S hD
    unfold D_X12_isOrder_4 at hD
    show u_P L xs n d m_X12_isOrder 4 [(0, .ref 100), (1, .int x1), (2, .int x2), (3, .int x3)] [] S R _
    refine u_st1 rfl (fun _ => rfl) (fun m hm => ?_)
    refine u_st rfl (fun _ => rfl) ?_
    show u_P L xs m d m_X12_isOrder 6 [(0, .ref 100), (1, .int x1), (2, .int x2), (3, .int x3)] [.int x1, .int x3] S R _
    refine u_ic_ge rfl (fun h1 => ?_) (fun h1 => ?_)
    · have hD := hD.1 h1
      show u_P L xs m d m_X12_isOrder 26 [(0, .ref 100), (1, .int x1), (2, .int x2), (3, .int x3)] [] S R _
      refine u_st rfl (fun _ => rfl) ?_
      refine u_st rfl (fun _ => rfl) ?_
      refine u_st rfl (fun _ => rfl) ?_
      refine u_st rfl (fun _ => rfl) ?_
      refine u_st rfl (fun _ => rfl) ?_
      refine u_st rfl (fun _ => rfl) ?_
      show u_P L xs m d m_X12_isOrder 32 [(0, .ref 100), (1, .int x1), (2, .int x2), (3, .int x3)] [.int (((Int32.ofInt 1) <<< (x1 &&& 31)) - (Int32.ofInt 1)), .int x2] S R _
      refine u_ic_ne rfl (fun h2 => ?_) (fun h2 => ?_)
      · have hD := hD.1 h2
        show u_P L xs m d m_X12_isOrder 39 [(0, .ref 100), (1, .int x1), (2, .int x2), (3, .int x3)] [] S R _
        refine u_st rfl (fun _ => rfl) ?_
        show u_P L xs m d m_X12_isOrder 40 [(0, .ref 100), (1, .int x1), (2, .int x2), (3, .int x3)] [.int (Int32.ofInt 0)] S R _
        exact u_retb rfl rfl ⟨_, rfl, rfl, hD⟩
      · have hD := hD.2 h2
        show u_P L xs m d m_X12_isOrder 35 [(0, .ref 100), (1, .int x1), (2, .int x2), (3, .int x3)] [] S R _
        refine u_st rfl (fun _ => rfl) ?_
        refine u_st rfl (fun _ => rfl) ?_
        show u_P L xs m d m_X12_isOrder 40 [(0, .ref 100), (1, .int x1), (2, .int x2), (3, .int x3)] [.int (Int32.ofInt 1)] S R _
        exact u_retb rfl rfl ⟨_, rfl, rfl, hD⟩
    · have hD := hD.2 h1
      show u_P L xs m d m_X12_isOrder 9 [(0, .ref 100), (1, .int x1), (2, .int x2), (3, .int x3)] [] S R _
      refine u_st rfl (fun _ => rfl) ?_
      refine u_st rfl (fun _ => rfl) ?_
      refine u_st rfl (fun _ => rfl) ?_
      show u_P L xs m d m_X12_isOrder 12 [(0, .ref 100), (1, .int x1), (2, .int x2), (3, .int x3)] [.ref 100, .int (Int32.ofInt 1), .int x2] S R _
      refine u_getr rfl v_tyM rfl ?_
      refine u_st rfl (fun _ => rfl) ?_
      show u_P L xs m d m_X12_isOrder 16 [(0, .ref 100), (1, .int x1), (2, .int x2), (3, .int x3)] [.int x3, .ref 155, .int (Int32.ofInt 1), .int x2] S R _
      refine u_ialdE (v := S 154 x3.toInt.toNat) rfl rfl rfl (fun b31 b32 => ?_)
      have hD := hD b31 b32
      show u_P L xs m d m_X12_isOrder 17 [(0, .ref 100), (1, .int x1), (2, .int x2), (3, .int x3)] [.int (S 154 x3.toInt.toNat), .int (Int32.ofInt 1), .int x2] S R _
      refine u_st rfl (fun _ => rfl) ?_
      refine u_st rfl (fun _ => rfl) ?_
      refine u_st rfl (fun _ => rfl) ?_
      refine u_st rfl (fun _ => rfl) ?_
      refine u_st rfl (fun _ => rfl) ?_
      refine u_lc (b := [(0, .ref 100), (1, .int x1), (2, .int (x2 ||| ((Int32.ofInt 1) <<< ((S 154 x3.toInt.toNat) &&& 31)))), (3, .int (x3 + (Int32.ofInt 1)))]) (show ([3, 2, 0, 1] : List Nat).Nodup by decide) (show ([0, 1, 2, 3] : List Nat).Nodup by decide) (fun i => match i with | 0 => rfl | 1 => rfl | 2 => rfl | 3 => rfl | _ + 4 => rfl) ?_
      exact (ih m hm) d x1 (x2 ||| ((Int32.ofInt 1) <<< ((S 154 x3.toInt.toNat) &&& 31))) (x3 + (Int32.ofInt 1)) S hD
set_option maxRecDepth 4000 in
theorem w_X12_isOrder (L : Nat) (xs : Nat → Int32) {R : v_Rf} (a : Int32) (H4 : Int32 → Int32 → Int32 → v_Sf → Prop) (K : Int32 → v_Sf → Prop) (k4 : ∀ (x1 : Int32) (x2 : Int32) (x3 : Int32) (S : v_Sf), H4 x1 x2 x3 S → D_X12_isOrder_4 H4 K x1 x2 x3 S) (n d : Nat) (S : v_Sf) (hD : D_X12_isOrder a H4 K S) : u_P L xs n d m_X12_isOrder 0 (lv_args 0 [.ref 100, .int a]) [] S R (z_Q R K) := by
  unfold D_X12_isOrder at hD
  show u_P L xs n d m_X12_isOrder 0 [(0, .ref 100), (1, .int a)] [] S R _
  refine u_st rfl (fun _ => rfl) ?_
  refine u_st rfl (fun _ => rfl) ?_
  refine u_st rfl (fun _ => rfl) ?_
  refine u_st rfl (fun _ => rfl) ?_
  refine u_lc (b := [(0, .ref 100), (1, .int a), (2, .int (Int32.ofInt 0)), (3, .int (Int32.ofInt 0))]) (show ([3, 2, 0, 1] : List Nat).Nodup by decide) (show ([0, 1, 2, 3] : List Nat).Nodup by decide) (fun i => match i with | 0 => rfl | 1 => rfl | 2 => rfl | 3 => rfl | _ + 4 => rfl) ?_
  exact (hd_X12_isOrder L xs a H4 K k4 n) d a (Int32.ofInt 0) (Int32.ofInt 0) S hD
noncomputable def r_X12_isOrder_4 (x1 : Int32) (S : v_Sf) : Nat → Nat → Int32 → Int32
  | 0, k4, x2 => (if ¬ x2 = (((Int32.ofInt 1) <<< (x1 &&& 31)) - (Int32.ofInt 1)) then Int32.ofInt 0 else Int32.ofInt 1)
  | r + 1, k4, x2 => r_X12_isOrder_4 x1 S r (k4 + 1) (x2 ||| ((Int32.ofInt 1) <<< ((S 154 (z_i k4).toInt.toNat) &&& 31)))
noncomputable def F_X12_isOrder (a : Int32) (S : v_Sf) : Int32 := r_X12_isOrder_4 a S (a.toInt.toNat - 0) 0 (Int32.ofInt 0)
noncomputable def f_X12_isOrder (a : Int32) (S : v_Sf) : Int32 := F_X12_isOrder a S
theorem c_X12_isOrder (L : Nat) (xs : Nat → Int32) (n d : Nat) (a : Int32) (S : v_Sf) (R : v_Rf) : u_P L xs n d m_X12_isOrder 0 (lv_args 0 [.ref 100, .int a]) [] S R (z_Q R (fun v S1 => f_X12_isOrder a S = v ∧ S = S1)) := by
  refine w_X12_isOrder L xs a (fun y1 y2 y3 T => ∃ (k4 : Nat), k4 ≤ a.toInt.toNat ∧ z_i k4 = y3 ∧ a = y1 ∧ S = T ∧ r_X12_isOrder_4 a S (a.toInt.toNat - k4) k4 y2 = F_X12_isOrder a S) (fun v S1 => f_X12_isOrder a S = v ∧ S = S1) ?_ n d S ?_
  · rintro _ x2 _ _ ⟨k4, hkk, rfl, rfl, rfl, e⟩
    unfold D_X12_isOrder_4
    rcases Nat.lt_or_ge k4 (a.toInt.toNat) with hk | hk
    · rw [show a.toInt.toNat - k4 = (a.toInt.toNat - (k4 + 1)) + 1 by omega, r_X12_isOrder_4] at e
      refine ⟨fun q1 => ?_, fun q1 => ?_⟩
      · exact absurd hk (Nat.not_lt.mpr (z_leV q1 (by omega)))
      · intro _ _
        exact ⟨(k4 + 1), by omega, (z_i1 k4).symm, rfl, rfl, e⟩
    · rw [show a.toInt.toNat - k4 = 0 by omega, r_X12_isOrder_4] at e
      refine ⟨fun q2 => ?_, fun q2 => ?_⟩
      · refine ⟨fun q3 => ?_, fun q3 => ?_⟩
        · rw [if_pos q3] at e
          exact ⟨e.symm, rfl⟩
        · rw [if_neg q3] at e
          exact ⟨e.symm, rfl⟩
      · exact absurd hk (Nat.not_le.mpr (z_ltV q2 (by omega)))
  · unfold D_X12_isOrder
    have e : r_X12_isOrder_4 a S (a.toInt.toNat - 0) 0 (Int32.ofInt 0) = F_X12_isOrder a S := by rw [F_X12_isOrder]
    exact ⟨0, by omega, rfl, rfl, rfl, e⟩
noncomputable abbrev m_X12_housed : g_M := (g_cn 12, yX12_housed, cX12_housed, 9, (some .int), g_look2 ttX12_housed)
set_option maxRecDepth 20000 in
theorem mt_X12_housed : g_mt 259 = some m_X12_housed := rfl
noncomputable def D_X12_housed_81  (H81 : Int32 → Int32 → Int32 → Int32 → Int32 → Int32 → v_Sf → Prop) (K : Int32 → v_Sf → Prop) (x1 : Int32) (x3 : Int32) (x4 : Int32) (x5 : Int32) (x6 : Int32) (x7 : Int32) (S : v_Sf) : Prop := (((f_X12_powerOf x5 x4) ≤ x7 → (((¬ x6 = (Int32.ofInt 1000000000)) → (((¬ x3 = (Int32.ofInt 20)) → (0 ≤ (f_X12_placeIn x1 x3).toInt → (f_X12_placeIn x1 x3).toInt < 8 → (0 ≤ (S 155 ((f_X12_placeIn x1 x3).toInt.toNat)).toInt → (S 155 ((f_X12_placeIn x1 x3).toInt.toNat)).toInt < 6 → K (S 153 ((S 155 ((f_X12_placeIn x1 x3).toInt.toNat)).toInt.toNat)) S))) ∧ (¬ (¬ x3 = (Int32.ofInt 20)) → K x6 S))) ∧ (¬ (¬ x6 = (Int32.ofInt 1000000000)) → K (Int32.ofInt (-2)) S))) ∧ (¬ ((f_X12_powerOf x5 x4) ≤ x7) → (((¬ (f_X12_isRoomFor x4 x5 (g_X12_opensRow x7 x4 x5 S)) = 0) → (((f_X12_twosIn x4 (g_X12_opensRow x7 x4 x5 S)) < x6 → H81 x1 x3 x4 x5 (f_X12_twosIn x4 (g_X12_opensRow x7 x4 x5 S)) (x7 + (Int32.ofInt 1)) (g_X12_keepsRow x4 (g_X12_twosIn x4 (g_X12_opensRow x7 x4 x5 S)))) ∧ (¬ ((f_X12_twosIn x4 (g_X12_opensRow x7 x4 x5 S)) < x6) → H81 x1 x3 x4 x5 x6 (x7 + (Int32.ofInt 1)) (g_X12_twosIn x4 (g_X12_opensRow x7 x4 x5 S))))) ∧ (¬ (¬ (f_X12_isRoomFor x4 x5 (g_X12_opensRow x7 x4 x5 S)) = 0) → H81 x1 x3 x4 x5 x6 (x7 + (Int32.ofInt 1)) (g_X12_opensRow x7 x4 x5 S)))))
noncomputable def D_X12_housed (a : Int32) (b : Int32) (i : Int32) (H81 : Int32 → Int32 → Int32 → Int32 → Int32 → Int32 → v_Sf → Prop) (K : Int32 → v_Sf → Prop) (S : v_Sf) : Prop := (((f_X12_areGusts a (Int32.ofInt 1) (Int32.ofInt 6) S) = 0 → K (Int32.ofInt (-1)) S) ∧ (¬ ((f_X12_areGusts a (Int32.ofInt 1) (Int32.ofInt 6) S) = 0) → (((z_in b 1 63) = 0 → K (Int32.ofInt (-1)) S) ∧ (¬ ((z_in b 1 63) = 0) → (((Int32.ofInt 3) < (f_X12_sizeOf b) → K (Int32.ofInt (-1)) S) ∧ (¬ ((Int32.ofInt 3) < (f_X12_sizeOf b)) → ((i = (Int32.ofInt 20) → H81 a i (f_X12_takesSome a S) (f_X12_takesPlaces b (g_X12_takesSome a S)) (Int32.ofInt 1000000000) (Int32.ofInt 0) (g_X12_takesPlaces b (g_X12_takesSome a S))) ∧ (¬ (i = (Int32.ofInt 20)) → (((z_in i 0 11) = 0 → K (Int32.ofInt (-1)) S) ∧ (¬ ((z_in i 0 11) = 0) → (((¬ (f_X12_has a i) = 0) → H81 a i (f_X12_takesSome a S) (f_X12_takesPlaces b (g_X12_takesSome a S)) (Int32.ofInt 1000000000) (Int32.ofInt 0) (g_X12_takesPlaces b (g_X12_takesSome a S))) ∧ (¬ (¬ (f_X12_has a i) = 0) → K (Int32.ofInt (-1)) S))))))))))))
set_option maxRecDepth 4000 in
theorem hd_X12_housed (L : Nat) (xs : Nat → Int32) {R : v_Rf} (a : Int32) (b : Int32) (i : Int32) (H81 : Int32 → Int32 → Int32 → Int32 → Int32 → Int32 → v_Sf → Prop) (K : Int32 → v_Sf → Prop) (k81 : ∀ (x1 : Int32) (x3 : Int32) (x4 : Int32) (x5 : Int32) (x6 : Int32) (x7 : Int32) (S : v_Sf), H81 x1 x3 x4 x5 x6 x7 S → D_X12_housed_81 H81 K x1 x3 x4 x5 x6 x7 S) : ∀ n, (∀ (d : Nat) (j2 : Int32) (x1 : Int32) (x3 : Int32) (x4 : Int32) (x5 : Int32) (x6 : Int32) (x7 : Int32) (S : v_Sf), H81 x1 x3 x4 x5 x6 x7 S → u_P L xs n d m_X12_housed 81 [(0, .ref 100), (1, .int x1), (2, .int j2), (3, .int x3), (4, .int x4), (5, .int x5), (6, .int x6), (7, .int x7)] [] S R (z_Q R K)) ∧ (∀ (d : Nat) (j2 : Int32) (j8 : Int32) (x1 : Int32) (x3 : Int32) (x4 : Int32) (x5 : Int32) (x6 : Int32) (x7 : Int32) (S : v_Sf), H81 x1 x3 x4 x5 x6 x7 S → u_P L xs n d m_X12_housed 81 [(0, .ref 100), (1, .int x1), (2, .int j2), (3, .int x3), (4, .int x4), (5, .int x5), (6, .int x6), (7, .int x7), (8, .int j8)] [] S R (z_Q R K)) := by
  intro n
  induction n using Nat.strongRecOn with
  | ind n ih =>
    refine ⟨?_, ?_⟩
    · intro d j2 x1 x3 x4 x5 x6 x7 S hD
      have hD := k81 x1 x3 x4 x5 x6 x7 S hD
      unfold D_X12_housed_81 at hD
      show u_P L xs n d m_X12_housed 81 [(0, .ref 100), (1, .int x1), (2, .int j2), (3, .int x3), (4, .int x4), (5, .int x5), (6, .int x6), (7, .int x7)] [] S R _
      refine u_st1 rfl (fun _ => rfl) (fun m hm => ?_)
      refine u_st rfl (fun _ => rfl) ?_
      refine u_st rfl (fun _ => rfl) ?_
      show u_P L xs m d m_X12_housed 87 [(0, .ref 100), (1, .int x1), (2, .int j2), (3, .int x3), (4, .int x4), (5, .int x5), (6, .int x6), (7, .int x7)] [.int x4, .int x5, .int x7] S R _
      refine u_cs (ac := [.int x5, .int x4]) (rest := [.int x7]) rfl (by decide) mt_X12_powerOf (fun _ => rfl) (Nat.le_of_ble_eq_true rfl) (Nat.le_of_ble_eq_true rfl) (fun d' => c_X12_powerOf L xs m d' x5 x4 S R) ?_
      rintro _ _ _ ⟨_, rfl, rfl, rfl, rfl⟩
      show u_P L xs m d m_X12_housed 90 [(0, .ref 100), (1, .int x1), (2, .int j2), (3, .int x3), (4, .int x4), (5, .int x5), (6, .int x6), (7, .int x7)] [.int (f_X12_powerOf x5 x4), .int x7] S R _
      refine u_ic_ge rfl (fun h1 => ?_) (fun h1 => ?_)
      · have hD := hD.1 h1
        show u_P L xs m d m_X12_housed 151 [(0, .ref 100), (1, .int x1), (2, .int j2), (3, .int x3), (4, .int x4), (5, .int x5), (6, .int x6), (7, .int x7)] [] S R _
        refine u_st rfl (fun _ => rfl) ?_
        refine u_st rfl (fun _ => rfl) ?_
        show u_P L xs m d m_X12_housed 156 [(0, .ref 100), (1, .int x1), (2, .int j2), (3, .int x3), (4, .int x4), (5, .int x5), (6, .int x6), (7, .int x7)] [.int (Int32.ofInt 1000000000), .int x6] S R _
        refine u_ic_ne rfl (fun h2 => ?_) (fun h2 => ?_)
        · have hD := hD.1 h2
          show u_P L xs m d m_X12_housed 162 [(0, .ref 100), (1, .int x1), (2, .int j2), (3, .int x3), (4, .int x4), (5, .int x5), (6, .int x6), (7, .int x7)] [] S R _
          refine u_st rfl (fun _ => rfl) ?_
          refine u_st rfl (fun _ => rfl) ?_
          show u_P L xs m d m_X12_housed 165 [(0, .ref 100), (1, .int x1), (2, .int j2), (3, .int x3), (4, .int x4), (5, .int x5), (6, .int x6), (7, .int x7)] [.int (Int32.ofInt 20), .int x3] S R _
          refine u_ic_ne rfl (fun h3 => ?_) (fun h3 => ?_)
          · have hD := hD.1 h3
            show u_P L xs m d m_X12_housed 173 [(0, .ref 100), (1, .int x1), (2, .int j2), (3, .int x3), (4, .int x4), (5, .int x5), (6, .int x6), (7, .int x7)] [] S R _
            refine u_st rfl (fun _ => rfl) ?_
            show u_P L xs m d m_X12_housed 174 [(0, .ref 100), (1, .int x1), (2, .int j2), (3, .int x3), (4, .int x4), (5, .int x5), (6, .int x6), (7, .int x7)] [.ref 100] S R _
            refine u_getr rfl v_tyM rfl ?_
            refine u_st rfl (fun _ => rfl) ?_
            show u_P L xs m d m_X12_housed 178 [(0, .ref 100), (1, .int x1), (2, .int j2), (3, .int x3), (4, .int x4), (5, .int x5), (6, .int x6), (7, .int x7)] [.ref 100, .ref 154] S R _
            refine u_getr rfl v_tyM rfl ?_
            refine u_st rfl (fun _ => rfl) ?_
            refine u_st rfl (fun _ => rfl) ?_
            show u_P L xs m d m_X12_housed 183 [(0, .ref 100), (1, .int x1), (2, .int j2), (3, .int x3), (4, .int x4), (5, .int x5), (6, .int x6), (7, .int x7)] [.int x3, .int x1, .ref 156, .ref 154] S R _
            refine u_cs (ac := [.int x1, .int x3]) (rest := [.ref 156, .ref 154]) rfl (by decide) mt_X12_placeIn (fun _ => rfl) (Nat.le_of_ble_eq_true rfl) (Nat.le_of_ble_eq_true rfl) (fun d' => c_X12_placeIn L xs m d' x1 x3 S R) ?_
            rintro _ _ _ ⟨_, rfl, rfl, rfl, rfl⟩
            show u_P L xs m d m_X12_housed 186 [(0, .ref 100), (1, .int x1), (2, .int j2), (3, .int x3), (4, .int x4), (5, .int x5), (6, .int x6), (7, .int x7)] [.int (f_X12_placeIn x1 x3), .ref 156, .ref 154] S R _
            refine u_ialdE (v := S 155 ((f_X12_placeIn x1 x3).toInt.toNat)) rfl rfl rfl (fun b41 b42 => ?_)
            have hD := hD b41 b42
            show u_P L xs m d m_X12_housed 187 [(0, .ref 100), (1, .int x1), (2, .int j2), (3, .int x3), (4, .int x4), (5, .int x5), (6, .int x6), (7, .int x7)] [.int (S 155 ((f_X12_placeIn x1 x3).toInt.toNat)), .ref 154] S R _
            refine u_ialdE (v := S 153 ((S 155 ((f_X12_placeIn x1 x3).toInt.toNat)).toInt.toNat)) rfl rfl rfl (fun b51 b52 => ?_)
            have hD := hD b51 b52
            show u_P L xs m d m_X12_housed 188 [(0, .ref 100), (1, .int x1), (2, .int j2), (3, .int x3), (4, .int x4), (5, .int x5), (6, .int x6), (7, .int x7)] [.int (S 153 ((S 155 ((f_X12_placeIn x1 x3).toInt.toNat)).toInt.toNat))] S R _
            exact u_ret rfl rfl ⟨_, rfl, rfl, hD⟩
          · have hD := hD.2 h3
            show u_P L xs m d m_X12_housed 168 [(0, .ref 100), (1, .int x1), (2, .int j2), (3, .int x3), (4, .int x4), (5, .int x5), (6, .int x6), (7, .int x7)] [] S R _
            refine u_st rfl (fun _ => rfl) ?_
            refine u_st rfl (fun _ => rfl) ?_
            show u_P L xs m d m_X12_housed 188 [(0, .ref 100), (1, .int x1), (2, .int j2), (3, .int x3), (4, .int x4), (5, .int x5), (6, .int x6), (7, .int x7)] [.int x6] S R _
            exact u_ret rfl rfl ⟨_, rfl, rfl, hD⟩
        · have hD := hD.2 h2
          show u_P L xs m d m_X12_housed 159 [(0, .ref 100), (1, .int x1), (2, .int j2), (3, .int x3), (4, .int x4), (5, .int x5), (6, .int x6), (7, .int x7)] [] S R _
          refine u_st rfl (fun _ => rfl) ?_
          show u_P L xs m d m_X12_housed 161 [(0, .ref 100), (1, .int x1), (2, .int j2), (3, .int x3), (4, .int x4), (5, .int x5), (6, .int x6), (7, .int x7)] [.int (Int32.ofInt (-2))] S R _
          exact u_ret rfl rfl ⟨_, rfl, rfl, hD⟩
      · have hD := hD.2 h1
        show u_P L xs m d m_X12_housed 93 [(0, .ref 100), (1, .int x1), (2, .int j2), (3, .int x3), (4, .int x4), (5, .int x5), (6, .int x6), (7, .int x7)] [] S R _
        refine u_st rfl (fun _ => rfl) ?_
        refine u_st rfl (fun _ => rfl) ?_
        refine u_st rfl (fun _ => rfl) ?_
        refine u_st rfl (fun _ => rfl) ?_
        show u_P L xs m d m_X12_housed 100 [(0, .ref 100), (1, .int x1), (2, .int j2), (3, .int x3), (4, .int x4), (5, .int x5), (6, .int x6), (7, .int x7)] [.int x5, .int x4, .int x7, .ref 100] S R _
        refine u_cv (rest := []) rfl (by decide) mt_X12_opensRow v_tyM rfl rfl rfl (Nat.le_of_ble_eq_true rfl) (Nat.le_of_ble_eq_true rfl) (Nat.le_of_ble_eq_true rfl) (fun d' => c_X12_opensRow L xs m d' x7 x4 x5 S R) ?_
        rintro _ _ _ ⟨rfl, rfl, rfl⟩
        refine u_st rfl (fun _ => rfl) ?_
        refine u_st rfl (fun _ => rfl) ?_
        refine u_st rfl (fun _ => rfl) ?_
        show u_P L xs m d m_X12_housed 108 [(0, .ref 100), (1, .int x1), (2, .int j2), (3, .int x3), (4, .int x4), (5, .int x5), (6, .int x6), (7, .int x7)] [.int x5, .int x4, .ref 100] (g_X12_opensRow x7 x4 x5 S) R _
        refine u_cv (rest := []) rfl (by decide) mt_X12_isRoomFor v_tyM rfl rfl rfl (Nat.le_of_ble_eq_true rfl) (Nat.le_of_ble_eq_true rfl) (Nat.le_of_ble_eq_true rfl) (fun d' => c_X12_isRoomFor L xs m d' x4 x5 (g_X12_opensRow x7 x4 x5 S) R) ?_
        rintro _ _ _ ⟨_, rfl, rfl, rfl, rfl⟩
        show u_P L xs m d m_X12_housed 111 [(0, .ref 100), (1, .int x1), (2, .int j2), (3, .int x3), (4, .int x4), (5, .int x5), (6, .int x6), (7, .int x7)] [.int (f_X12_isRoomFor x4 x5 (g_X12_opensRow x7 x4 x5 S))] (g_X12_opensRow x7 x4 x5 S) R _
        refine u_if_ne rfl (fun h6 => ?_) (fun h6 => ?_)
        · have hD := hD.1 h6
          show u_P L xs m d m_X12_housed 117 [(0, .ref 100), (1, .int x1), (2, .int j2), (3, .int x3), (4, .int x4), (5, .int x5), (6, .int x6), (7, .int x7)] [] (g_X12_opensRow x7 x4 x5 S) R _
          refine u_st rfl (fun _ => rfl) ?_
          refine u_st rfl (fun _ => rfl) ?_
          show u_P L xs m d m_X12_housed 120 [(0, .ref 100), (1, .int x1), (2, .int j2), (3, .int x3), (4, .int x4), (5, .int x5), (6, .int x6), (7, .int x7)] [.int x4, .ref 100] (g_X12_opensRow x7 x4 x5 S) R _
          refine u_cv (rest := []) rfl (by decide) mt_X12_twosIn v_tyM rfl rfl rfl (Nat.le_of_ble_eq_true rfl) (Nat.le_of_ble_eq_true rfl) (Nat.le_of_ble_eq_true rfl) (fun d' => c_X12_twosIn L xs m d' x4 (g_X12_opensRow x7 x4 x5 S) R) ?_
          rintro _ _ _ ⟨_, rfl, rfl, rfl, rfl⟩
          refine u_st rfl (fun _ => rfl) ?_
          refine u_st rfl (fun _ => rfl) ?_
          refine u_st rfl (fun _ => rfl) ?_
          show u_P L xs m d m_X12_housed 129 [(8, .int (f_X12_twosIn x4 (g_X12_opensRow x7 x4 x5 S))), (0, .ref 100), (1, .int x1), (2, .int j2), (3, .int x3), (4, .int x4), (5, .int x5), (6, .int x6), (7, .int x7)] [.int x6, .int (f_X12_twosIn x4 (g_X12_opensRow x7 x4 x5 S))] (g_X12_twosIn x4 (g_X12_opensRow x7 x4 x5 S)) R _
          refine u_ic_lt rfl (fun h7 => ?_) (fun h7 => ?_)
          · have hD := hD.1 h7
            show u_P L xs m d m_X12_housed 135 [(8, .int (f_X12_twosIn x4 (g_X12_opensRow x7 x4 x5 S))), (0, .ref 100), (1, .int x1), (2, .int j2), (3, .int x3), (4, .int x4), (5, .int x5), (6, .int x6), (7, .int x7)] [] (g_X12_twosIn x4 (g_X12_opensRow x7 x4 x5 S)) R _
            refine u_st rfl (fun _ => rfl) ?_
            refine u_st rfl (fun _ => rfl) ?_
            refine u_st rfl (fun _ => rfl) ?_
            refine u_st rfl (fun _ => rfl) ?_
            show u_P L xs m d m_X12_housed 142 [(6, .int (f_X12_twosIn x4 (g_X12_opensRow x7 x4 x5 S))), (8, .int (f_X12_twosIn x4 (g_X12_opensRow x7 x4 x5 S))), (0, .ref 100), (1, .int x1), (2, .int j2), (3, .int x3), (4, .int x4), (5, .int x5), (7, .int x7)] [.int x4, .ref 100] (g_X12_twosIn x4 (g_X12_opensRow x7 x4 x5 S)) R _
            refine u_cv (rest := []) rfl (by decide) mt_X12_keepsRow v_tyM rfl rfl rfl (Nat.le_of_ble_eq_true rfl) (Nat.le_of_ble_eq_true rfl) (Nat.le_of_ble_eq_true rfl) (fun d' => c_X12_keepsRow L xs m d' x4 (g_X12_twosIn x4 (g_X12_opensRow x7 x4 x5 S)) R) ?_
            rintro _ _ _ ⟨rfl, rfl, rfl⟩
            refine u_st rfl (fun _ => rfl) ?_
            refine u_st rfl (fun _ => rfl) ?_
            refine u_lc (b := [(0, .ref 100), (1, .int x1), (2, .int j2), (3, .int x3), (4, .int x4), (5, .int x5), (6, .int (f_X12_twosIn x4 (g_X12_opensRow x7 x4 x5 S))), (7, .int (x7 + (Int32.ofInt 1))), (8, .int (f_X12_twosIn x4 (g_X12_opensRow x7 x4 x5 S)))]) (show ([7, 6, 8, 0, 1, 2, 3, 4, 5] : List Nat).Nodup by decide) (show ([0, 1, 2, 3, 4, 5, 6, 7, 8] : List Nat).Nodup by decide) (fun i => match i with | 0 => rfl | 1 => rfl | 2 => rfl | 3 => rfl | 4 => rfl | 5 => rfl | 6 => rfl | 7 => rfl | 8 => rfl | _ + 9 => rfl) ?_
            exact (ih m hm).2 d j2 (f_X12_twosIn x4 (g_X12_opensRow x7 x4 x5 S)) x1 x3 x4 x5 (f_X12_twosIn x4 (g_X12_opensRow x7 x4 x5 S)) (x7 + (Int32.ofInt 1)) (g_X12_keepsRow x4 (g_X12_twosIn x4 (g_X12_opensRow x7 x4 x5 S))) hD
          · have hD := hD.2 h7
            show u_P L xs m d m_X12_housed 132 [(8, .int (f_X12_twosIn x4 (g_X12_opensRow x7 x4 x5 S))), (0, .ref 100), (1, .int x1), (2, .int j2), (3, .int x3), (4, .int x4), (5, .int x5), (6, .int x6), (7, .int x7)] [] (g_X12_twosIn x4 (g_X12_opensRow x7 x4 x5 S)) R _
            refine u_st rfl (fun _ => rfl) ?_
            refine u_st rfl (fun _ => rfl) ?_
            refine u_st rfl (fun _ => rfl) ?_
            refine u_lc (b := [(0, .ref 100), (1, .int x1), (2, .int j2), (3, .int x3), (4, .int x4), (5, .int x5), (6, .int x6), (7, .int (x7 + (Int32.ofInt 1))), (8, .int (f_X12_twosIn x4 (g_X12_opensRow x7 x4 x5 S)))]) (show ([7, 8, 0, 1, 2, 3, 4, 5, 6] : List Nat).Nodup by decide) (show ([0, 1, 2, 3, 4, 5, 6, 7, 8] : List Nat).Nodup by decide) (fun i => match i with | 0 => rfl | 1 => rfl | 2 => rfl | 3 => rfl | 4 => rfl | 5 => rfl | 6 => rfl | 7 => rfl | 8 => rfl | _ + 9 => rfl) ?_
            exact (ih m hm).2 d j2 (f_X12_twosIn x4 (g_X12_opensRow x7 x4 x5 S)) x1 x3 x4 x5 x6 (x7 + (Int32.ofInt 1)) (g_X12_twosIn x4 (g_X12_opensRow x7 x4 x5 S)) hD
        · have hD := hD.2 h6
          show u_P L xs m d m_X12_housed 114 [(0, .ref 100), (1, .int x1), (2, .int j2), (3, .int x3), (4, .int x4), (5, .int x5), (6, .int x6), (7, .int x7)] [] (g_X12_opensRow x7 x4 x5 S) R _
          refine u_st rfl (fun _ => rfl) ?_
          refine u_st rfl (fun _ => rfl) ?_
          refine u_st rfl (fun _ => rfl) ?_
          refine u_lc (b := [(0, .ref 100), (1, .int x1), (2, .int j2), (3, .int x3), (4, .int x4), (5, .int x5), (6, .int x6), (7, .int (x7 + (Int32.ofInt 1)))]) (show ([7, 0, 1, 2, 3, 4, 5, 6] : List Nat).Nodup by decide) (show ([0, 1, 2, 3, 4, 5, 6, 7] : List Nat).Nodup by decide) (fun i => match i with | 0 => rfl | 1 => rfl | 2 => rfl | 3 => rfl | 4 => rfl | 5 => rfl | 6 => rfl | 7 => rfl | _ + 8 => rfl) ?_
          exact (ih m hm).1 d j2 x1 x3 x4 x5 x6 (x7 + (Int32.ofInt 1)) (g_X12_opensRow x7 x4 x5 S) hD
    · intro d j2 j8 x1 x3 x4 x5 x6 x7 S hD
      have hD := k81 x1 x3 x4 x5 x6 x7 S hD
      unfold D_X12_housed_81 at hD
      show u_P L xs n d m_X12_housed 81 [(0, .ref 100), (1, .int x1), (2, .int j2), (3, .int x3), (4, .int x4), (5, .int x5), (6, .int x6), (7, .int x7), (8, .int j8)] [] S R _
      refine u_st1 rfl (fun _ => rfl) (fun m hm => ?_)
      refine u_st rfl (fun _ => rfl) ?_
      refine u_st rfl (fun _ => rfl) ?_
      show u_P L xs m d m_X12_housed 87 [(0, .ref 100), (1, .int x1), (2, .int j2), (3, .int x3), (4, .int x4), (5, .int x5), (6, .int x6), (7, .int x7), (8, .int j8)] [.int x4, .int x5, .int x7] S R _
      refine u_cs (ac := [.int x5, .int x4]) (rest := [.int x7]) rfl (by decide) mt_X12_powerOf (fun _ => rfl) (Nat.le_of_ble_eq_true rfl) (Nat.le_of_ble_eq_true rfl) (fun d' => c_X12_powerOf L xs m d' x5 x4 S R) ?_
      rintro _ _ _ ⟨_, rfl, rfl, rfl, rfl⟩
      show u_P L xs m d m_X12_housed 90 [(0, .ref 100), (1, .int x1), (2, .int j2), (3, .int x3), (4, .int x4), (5, .int x5), (6, .int x6), (7, .int x7), (8, .int j8)] [.int (f_X12_powerOf x5 x4), .int x7] S R _
      refine u_ic_ge rfl (fun h1 => ?_) (fun h1 => ?_)
      · have hD := hD.1 h1
        show u_P L xs m d m_X12_housed 151 [(0, .ref 100), (1, .int x1), (2, .int j2), (3, .int x3), (4, .int x4), (5, .int x5), (6, .int x6), (7, .int x7), (8, .int j8)] [] S R _
        refine u_st rfl (fun _ => rfl) ?_
        refine u_st rfl (fun _ => rfl) ?_
        show u_P L xs m d m_X12_housed 156 [(0, .ref 100), (1, .int x1), (2, .int j2), (3, .int x3), (4, .int x4), (5, .int x5), (6, .int x6), (7, .int x7), (8, .int j8)] [.int (Int32.ofInt 1000000000), .int x6] S R _
        refine u_ic_ne rfl (fun h2 => ?_) (fun h2 => ?_)
        · have hD := hD.1 h2
          show u_P L xs m d m_X12_housed 162 [(0, .ref 100), (1, .int x1), (2, .int j2), (3, .int x3), (4, .int x4), (5, .int x5), (6, .int x6), (7, .int x7), (8, .int j8)] [] S R _
          refine u_st rfl (fun _ => rfl) ?_
          refine u_st rfl (fun _ => rfl) ?_
          show u_P L xs m d m_X12_housed 165 [(0, .ref 100), (1, .int x1), (2, .int j2), (3, .int x3), (4, .int x4), (5, .int x5), (6, .int x6), (7, .int x7), (8, .int j8)] [.int (Int32.ofInt 20), .int x3] S R _
          refine u_ic_ne rfl (fun h3 => ?_) (fun h3 => ?_)
          · have hD := hD.1 h3
            show u_P L xs m d m_X12_housed 173 [(0, .ref 100), (1, .int x1), (2, .int j2), (3, .int x3), (4, .int x4), (5, .int x5), (6, .int x6), (7, .int x7), (8, .int j8)] [] S R _
            refine u_st rfl (fun _ => rfl) ?_
            show u_P L xs m d m_X12_housed 174 [(0, .ref 100), (1, .int x1), (2, .int j2), (3, .int x3), (4, .int x4), (5, .int x5), (6, .int x6), (7, .int x7), (8, .int j8)] [.ref 100] S R _
            refine u_getr rfl v_tyM rfl ?_
            refine u_st rfl (fun _ => rfl) ?_
            show u_P L xs m d m_X12_housed 178 [(0, .ref 100), (1, .int x1), (2, .int j2), (3, .int x3), (4, .int x4), (5, .int x5), (6, .int x6), (7, .int x7), (8, .int j8)] [.ref 100, .ref 154] S R _
            refine u_getr rfl v_tyM rfl ?_
            refine u_st rfl (fun _ => rfl) ?_
            refine u_st rfl (fun _ => rfl) ?_
            show u_P L xs m d m_X12_housed 183 [(0, .ref 100), (1, .int x1), (2, .int j2), (3, .int x3), (4, .int x4), (5, .int x5), (6, .int x6), (7, .int x7), (8, .int j8)] [.int x3, .int x1, .ref 156, .ref 154] S R _
            refine u_cs (ac := [.int x1, .int x3]) (rest := [.ref 156, .ref 154]) rfl (by decide) mt_X12_placeIn (fun _ => rfl) (Nat.le_of_ble_eq_true rfl) (Nat.le_of_ble_eq_true rfl) (fun d' => c_X12_placeIn L xs m d' x1 x3 S R) ?_
            rintro _ _ _ ⟨_, rfl, rfl, rfl, rfl⟩
            show u_P L xs m d m_X12_housed 186 [(0, .ref 100), (1, .int x1), (2, .int j2), (3, .int x3), (4, .int x4), (5, .int x5), (6, .int x6), (7, .int x7), (8, .int j8)] [.int (f_X12_placeIn x1 x3), .ref 156, .ref 154] S R _
            refine u_ialdE (v := S 155 ((f_X12_placeIn x1 x3).toInt.toNat)) rfl rfl rfl (fun b41 b42 => ?_)
            have hD := hD b41 b42
            show u_P L xs m d m_X12_housed 187 [(0, .ref 100), (1, .int x1), (2, .int j2), (3, .int x3), (4, .int x4), (5, .int x5), (6, .int x6), (7, .int x7), (8, .int j8)] [.int (S 155 ((f_X12_placeIn x1 x3).toInt.toNat)), .ref 154] S R _
            refine u_ialdE (v := S 153 ((S 155 ((f_X12_placeIn x1 x3).toInt.toNat)).toInt.toNat)) rfl rfl rfl (fun b51 b52 => ?_)
            have hD := hD b51 b52
            show u_P L xs m d m_X12_housed 188 [(0, .ref 100), (1, .int x1), (2, .int j2), (3, .int x3), (4, .int x4), (5, .int x5), (6, .int x6), (7, .int x7), (8, .int j8)] [.int (S 153 ((S 155 ((f_X12_placeIn x1 x3).toInt.toNat)).toInt.toNat))] S R _
            exact u_ret rfl rfl ⟨_, rfl, rfl, hD⟩
          · have hD := hD.2 h3
            show u_P L xs m d m_X12_housed 168 [(0, .ref 100), (1, .int x1), (2, .int j2), (3, .int x3), (4, .int x4), (5, .int x5), (6, .int x6), (7, .int x7), (8, .int j8)] [] S R _
            refine u_st rfl (fun _ => rfl) ?_
            refine u_st rfl (fun _ => rfl) ?_
            show u_P L xs m d m_X12_housed 188 [(0, .ref 100), (1, .int x1), (2, .int j2), (3, .int x3), (4, .int x4), (5, .int x5), (6, .int x6), (7, .int x7), (8, .int j8)] [.int x6] S R _
            exact u_ret rfl rfl ⟨_, rfl, rfl, hD⟩
        · have hD := hD.2 h2
          show u_P L xs m d m_X12_housed 159 [(0, .ref 100), (1, .int x1), (2, .int j2), (3, .int x3), (4, .int x4), (5, .int x5), (6, .int x6), (7, .int x7), (8, .int j8)] [] S R _
          refine u_st rfl (fun _ => rfl) ?_
          show u_P L xs m d m_X12_housed 161 [(0, .ref 100), (1, .int x1), (2, .int j2), (3, .int x3), (4, .int x4), (5, .int x5), (6, .int x6), (7, .int x7), (8, .int j8)] [.int (Int32.ofInt (-2))] S R _
          exact u_ret rfl rfl ⟨_, rfl, rfl, hD⟩
      · have hD := hD.2 h1
        show u_P L xs m d m_X12_housed 93 [(0, .ref 100), (1, .int x1), (2, .int j2), (3, .int x3), (4, .int x4), (5, .int x5), (6, .int x6), (7, .int x7), (8, .int j8)] [] S R _
        refine u_st rfl (fun _ => rfl) ?_
        refine u_st rfl (fun _ => rfl) ?_
        refine u_st rfl (fun _ => rfl) ?_
        refine u_st rfl (fun _ => rfl) ?_
        show u_P L xs m d m_X12_housed 100 [(0, .ref 100), (1, .int x1), (2, .int j2), (3, .int x3), (4, .int x4), (5, .int x5), (6, .int x6), (7, .int x7), (8, .int j8)] [.int x5, .int x4, .int x7, .ref 100] S R _
        refine u_cv (rest := []) rfl (by decide) mt_X12_opensRow v_tyM rfl rfl rfl (Nat.le_of_ble_eq_true rfl) (Nat.le_of_ble_eq_true rfl) (Nat.le_of_ble_eq_true rfl) (fun d' => c_X12_opensRow L xs m d' x7 x4 x5 S R) ?_
        rintro _ _ _ ⟨rfl, rfl, rfl⟩
        refine u_st rfl (fun _ => rfl) ?_
        refine u_st rfl (fun _ => rfl) ?_
        refine u_st rfl (fun _ => rfl) ?_
        show u_P L xs m d m_X12_housed 108 [(0, .ref 100), (1, .int x1), (2, .int j2), (3, .int x3), (4, .int x4), (5, .int x5), (6, .int x6), (7, .int x7), (8, .int j8)] [.int x5, .int x4, .ref 100] (g_X12_opensRow x7 x4 x5 S) R _
        refine u_cv (rest := []) rfl (by decide) mt_X12_isRoomFor v_tyM rfl rfl rfl (Nat.le_of_ble_eq_true rfl) (Nat.le_of_ble_eq_true rfl) (Nat.le_of_ble_eq_true rfl) (fun d' => c_X12_isRoomFor L xs m d' x4 x5 (g_X12_opensRow x7 x4 x5 S) R) ?_
        rintro _ _ _ ⟨_, rfl, rfl, rfl, rfl⟩
        show u_P L xs m d m_X12_housed 111 [(0, .ref 100), (1, .int x1), (2, .int j2), (3, .int x3), (4, .int x4), (5, .int x5), (6, .int x6), (7, .int x7), (8, .int j8)] [.int (f_X12_isRoomFor x4 x5 (g_X12_opensRow x7 x4 x5 S))] (g_X12_opensRow x7 x4 x5 S) R _
        refine u_if_ne rfl (fun h6 => ?_) (fun h6 => ?_)
        · have hD := hD.1 h6
          show u_P L xs m d m_X12_housed 117 [(0, .ref 100), (1, .int x1), (2, .int j2), (3, .int x3), (4, .int x4), (5, .int x5), (6, .int x6), (7, .int x7), (8, .int j8)] [] (g_X12_opensRow x7 x4 x5 S) R _
          refine u_st rfl (fun _ => rfl) ?_
          refine u_st rfl (fun _ => rfl) ?_
          show u_P L xs m d m_X12_housed 120 [(0, .ref 100), (1, .int x1), (2, .int j2), (3, .int x3), (4, .int x4), (5, .int x5), (6, .int x6), (7, .int x7), (8, .int j8)] [.int x4, .ref 100] (g_X12_opensRow x7 x4 x5 S) R _
          refine u_cv (rest := []) rfl (by decide) mt_X12_twosIn v_tyM rfl rfl rfl (Nat.le_of_ble_eq_true rfl) (Nat.le_of_ble_eq_true rfl) (Nat.le_of_ble_eq_true rfl) (fun d' => c_X12_twosIn L xs m d' x4 (g_X12_opensRow x7 x4 x5 S) R) ?_
          rintro _ _ _ ⟨_, rfl, rfl, rfl, rfl⟩
          refine u_st rfl (fun _ => rfl) ?_
          refine u_st rfl (fun _ => rfl) ?_
          refine u_st rfl (fun _ => rfl) ?_
          show u_P L xs m d m_X12_housed 129 [(8, .int (f_X12_twosIn x4 (g_X12_opensRow x7 x4 x5 S))), (0, .ref 100), (1, .int x1), (2, .int j2), (3, .int x3), (4, .int x4), (5, .int x5), (6, .int x6), (7, .int x7)] [.int x6, .int (f_X12_twosIn x4 (g_X12_opensRow x7 x4 x5 S))] (g_X12_twosIn x4 (g_X12_opensRow x7 x4 x5 S)) R _
          refine u_ic_lt rfl (fun h7 => ?_) (fun h7 => ?_)
          · have hD := hD.1 h7
            show u_P L xs m d m_X12_housed 135 [(8, .int (f_X12_twosIn x4 (g_X12_opensRow x7 x4 x5 S))), (0, .ref 100), (1, .int x1), (2, .int j2), (3, .int x3), (4, .int x4), (5, .int x5), (6, .int x6), (7, .int x7)] [] (g_X12_twosIn x4 (g_X12_opensRow x7 x4 x5 S)) R _
            refine u_st rfl (fun _ => rfl) ?_
            refine u_st rfl (fun _ => rfl) ?_
            refine u_st rfl (fun _ => rfl) ?_
            refine u_st rfl (fun _ => rfl) ?_
            show u_P L xs m d m_X12_housed 142 [(6, .int (f_X12_twosIn x4 (g_X12_opensRow x7 x4 x5 S))), (8, .int (f_X12_twosIn x4 (g_X12_opensRow x7 x4 x5 S))), (0, .ref 100), (1, .int x1), (2, .int j2), (3, .int x3), (4, .int x4), (5, .int x5), (7, .int x7)] [.int x4, .ref 100] (g_X12_twosIn x4 (g_X12_opensRow x7 x4 x5 S)) R _
            refine u_cv (rest := []) rfl (by decide) mt_X12_keepsRow v_tyM rfl rfl rfl (Nat.le_of_ble_eq_true rfl) (Nat.le_of_ble_eq_true rfl) (Nat.le_of_ble_eq_true rfl) (fun d' => c_X12_keepsRow L xs m d' x4 (g_X12_twosIn x4 (g_X12_opensRow x7 x4 x5 S)) R) ?_
            rintro _ _ _ ⟨rfl, rfl, rfl⟩
            refine u_st rfl (fun _ => rfl) ?_
            refine u_st rfl (fun _ => rfl) ?_
            refine u_lc (b := [(0, .ref 100), (1, .int x1), (2, .int j2), (3, .int x3), (4, .int x4), (5, .int x5), (6, .int (f_X12_twosIn x4 (g_X12_opensRow x7 x4 x5 S))), (7, .int (x7 + (Int32.ofInt 1))), (8, .int (f_X12_twosIn x4 (g_X12_opensRow x7 x4 x5 S)))]) (show ([7, 6, 8, 0, 1, 2, 3, 4, 5] : List Nat).Nodup by decide) (show ([0, 1, 2, 3, 4, 5, 6, 7, 8] : List Nat).Nodup by decide) (fun i => match i with | 0 => rfl | 1 => rfl | 2 => rfl | 3 => rfl | 4 => rfl | 5 => rfl | 6 => rfl | 7 => rfl | 8 => rfl | _ + 9 => rfl) ?_
            exact (ih m hm).2 d j2 (f_X12_twosIn x4 (g_X12_opensRow x7 x4 x5 S)) x1 x3 x4 x5 (f_X12_twosIn x4 (g_X12_opensRow x7 x4 x5 S)) (x7 + (Int32.ofInt 1)) (g_X12_keepsRow x4 (g_X12_twosIn x4 (g_X12_opensRow x7 x4 x5 S))) hD
          · have hD := hD.2 h7
            show u_P L xs m d m_X12_housed 132 [(8, .int (f_X12_twosIn x4 (g_X12_opensRow x7 x4 x5 S))), (0, .ref 100), (1, .int x1), (2, .int j2), (3, .int x3), (4, .int x4), (5, .int x5), (6, .int x6), (7, .int x7)] [] (g_X12_twosIn x4 (g_X12_opensRow x7 x4 x5 S)) R _
            refine u_st rfl (fun _ => rfl) ?_
            refine u_st rfl (fun _ => rfl) ?_
            refine u_st rfl (fun _ => rfl) ?_
            refine u_lc (b := [(0, .ref 100), (1, .int x1), (2, .int j2), (3, .int x3), (4, .int x4), (5, .int x5), (6, .int x6), (7, .int (x7 + (Int32.ofInt 1))), (8, .int (f_X12_twosIn x4 (g_X12_opensRow x7 x4 x5 S)))]) (show ([7, 8, 0, 1, 2, 3, 4, 5, 6] : List Nat).Nodup by decide) (show ([0, 1, 2, 3, 4, 5, 6, 7, 8] : List Nat).Nodup by decide) (fun i => match i with | 0 => rfl | 1 => rfl | 2 => rfl | 3 => rfl | 4 => rfl | 5 => rfl | 6 => rfl | 7 => rfl | 8 => rfl | _ + 9 => rfl) ?_
            exact (ih m hm).2 d j2 (f_X12_twosIn x4 (g_X12_opensRow x7 x4 x5 S)) x1 x3 x4 x5 x6 (x7 + (Int32.ofInt 1)) (g_X12_twosIn x4 (g_X12_opensRow x7 x4 x5 S)) hD
        · have hD := hD.2 h6
          show u_P L xs m d m_X12_housed 114 [(0, .ref 100), (1, .int x1), (2, .int j2), (3, .int x3), (4, .int x4), (5, .int x5), (6, .int x6), (7, .int x7), (8, .int j8)] [] (g_X12_opensRow x7 x4 x5 S) R _
          refine u_st rfl (fun _ => rfl) ?_
          refine u_st rfl (fun _ => rfl) ?_
          refine u_st rfl (fun _ => rfl) ?_
          refine u_lc (b := [(0, .ref 100), (1, .int x1), (2, .int j2), (3, .int x3), (4, .int x4), (5, .int x5), (6, .int x6), (7, .int (x7 + (Int32.ofInt 1))), (8, .int j8)]) (show ([7, 0, 1, 2, 3, 4, 5, 6, 8] : List Nat).Nodup by decide) (show ([0, 1, 2, 3, 4, 5, 6, 7, 8] : List Nat).Nodup by decide) (fun i => match i with | 0 => rfl | 1 => rfl | 2 => rfl | 3 => rfl | 4 => rfl | 5 => rfl | 6 => rfl | 7 => rfl | 8 => rfl | _ + 9 => rfl) ?_
          exact (ih m hm).2 d j2 j8 x1 x3 x4 x5 x6 (x7 + (Int32.ofInt 1)) (g_X12_opensRow x7 x4 x5 S) hD
set_option maxRecDepth 4000 in
theorem w_X12_housed (L : Nat) (xs : Nat → Int32) {R : v_Rf} (a : Int32) (b : Int32) (i : Int32) (H81 : Int32 → Int32 → Int32 → Int32 → Int32 → Int32 → v_Sf → Prop) (K : Int32 → v_Sf → Prop) (k81 : ∀ (x1 : Int32) (x3 : Int32) (x4 : Int32) (x5 : Int32) (x6 : Int32) (x7 : Int32) (S : v_Sf), H81 x1 x3 x4 x5 x6 x7 S → D_X12_housed_81 H81 K x1 x3 x4 x5 x6 x7 S) (n d : Nat) (S : v_Sf) (hD : D_X12_housed a b i H81 K S) : u_P L xs n d m_X12_housed 0 (lv_args 0 [.ref 100, .int a, .int b, .int i]) [] S R (z_Q R K) := by
  unfold D_X12_housed at hD
  show u_P L xs n d m_X12_housed 0 [(0, .ref 100), (1, .int a), (2, .int b), (3, .int i)] [] S R _
  refine u_st rfl (fun _ => rfl) ?_
  refine u_st rfl (fun _ => rfl) ?_
  refine u_st rfl (fun _ => rfl) ?_
  refine u_st rfl (fun _ => rfl) ?_
  show u_P L xs n d m_X12_housed 5 [(0, .ref 100), (1, .int a), (2, .int b), (3, .int i)] [.int (Int32.ofInt 6), .int (Int32.ofInt 1), .int a, .ref 100] S R _
  refine u_cv (rest := []) rfl (by decide) mt_X12_areGusts v_tyM rfl rfl rfl (Nat.le_of_ble_eq_true rfl) (Nat.le_of_ble_eq_true rfl) (Nat.le_of_ble_eq_true rfl) (fun d' => c_X12_areGusts L xs n d' a (Int32.ofInt 1) (Int32.ofInt 6) S R) ?_
  rintro _ _ _ ⟨_, rfl, rfl, rfl, rfl⟩
  show u_P L xs n d m_X12_housed 8 [(0, .ref 100), (1, .int a), (2, .int b), (3, .int i)] [.int (f_X12_areGusts a (Int32.ofInt 1) (Int32.ofInt 6) S)] S R _
  refine u_if_eq rfl (fun h1 => ?_) (fun h1 => ?_)
  · have hD := hD.1 h1
    show u_P L xs n d m_X12_housed 57 [(0, .ref 100), (1, .int a), (2, .int b), (3, .int i)] [] S R _
    refine u_st rfl (fun _ => rfl) ?_
    show u_P L xs n d m_X12_housed 58 [(0, .ref 100), (1, .int a), (2, .int b), (3, .int i)] [.int (Int32.ofInt (-1))] S R _
    exact u_ret rfl rfl ⟨_, rfl, rfl, hD⟩
  · have hD := hD.2 h1
    show u_P L xs n d m_X12_housed 11 [(0, .ref 100), (1, .int a), (2, .int b), (3, .int i)] [] S R _
    refine u_st rfl (fun _ => rfl) ?_
    refine u_st rfl (fun _ => rfl) ?_
    refine u_st rfl (fun _ => rfl) ?_
    refine u_st rfl (fun _ => rfl) ?_
    show u_P L xs n d m_X12_housed 17 [(0, .ref 100), (1, .int a), (2, .int b), (3, .int i)] [.long (Int64.ofInt 63), .long (Int64.ofNat 1), .long b.toInt64] S R _
    refine u_cs (ac := [.long b.toInt64, .long (Int64.ofNat 1), .long (Int64.ofInt 63)]) (rest := []) rfl (by decide) mt_X12_lies (fun _ => rfl) (Nat.le_of_ble_eq_true rfl) (Nat.le_of_ble_eq_true rfl) (fun d' => z_liesC L xs n d' b (Int64.ofNat 1) (Int64.ofInt 63) (lo := 1) (hi := 63) rfl rfl S R) ?_
    rintro _ _ _ ⟨_, rfl, rfl, rfl, rfl⟩
    show u_P L xs n d m_X12_housed 20 [(0, .ref 100), (1, .int a), (2, .int b), (3, .int i)] [.int (z_in b 1 63)] S R _
    refine u_if_eq rfl (fun h2 => ?_) (fun h2 => ?_)
    · have hD := hD.1 h2
      show u_P L xs n d m_X12_housed 57 [(0, .ref 100), (1, .int a), (2, .int b), (3, .int i)] [] S R _
      refine u_st rfl (fun _ => rfl) ?_
      show u_P L xs n d m_X12_housed 58 [(0, .ref 100), (1, .int a), (2, .int b), (3, .int i)] [.int (Int32.ofInt (-1))] S R _
      exact u_ret rfl rfl ⟨_, rfl, rfl, hD⟩
    · have hD := hD.2 h2
      show u_P L xs n d m_X12_housed 23 [(0, .ref 100), (1, .int a), (2, .int b), (3, .int i)] [] S R _
      refine u_st rfl (fun _ => rfl) ?_
      show u_P L xs n d m_X12_housed 24 [(0, .ref 100), (1, .int a), (2, .int b), (3, .int i)] [.int b] S R _
      refine u_cs (ac := [.int b]) (rest := []) rfl (by decide) mt_X12_sizeOf (fun _ => rfl) (Nat.le_of_ble_eq_true rfl) (Nat.le_of_ble_eq_true rfl) (fun d' => c_X12_sizeOf L xs n d' b S R) ?_
      rintro _ _ _ ⟨_, rfl, rfl, rfl, rfl⟩
      refine u_st rfl (fun _ => rfl) ?_
      show u_P L xs n d m_X12_housed 28 [(0, .ref 100), (1, .int a), (2, .int b), (3, .int i)] [.int (Int32.ofInt 3), .int (f_X12_sizeOf b)] S R _
      refine u_ic_gt rfl (fun h3 => ?_) (fun h3 => ?_)
      · have hD := hD.1 h3
        show u_P L xs n d m_X12_housed 57 [(0, .ref 100), (1, .int a), (2, .int b), (3, .int i)] [] S R _
        refine u_st rfl (fun _ => rfl) ?_
        show u_P L xs n d m_X12_housed 58 [(0, .ref 100), (1, .int a), (2, .int b), (3, .int i)] [.int (Int32.ofInt (-1))] S R _
        exact u_ret rfl rfl ⟨_, rfl, rfl, hD⟩
      · have hD := hD.2 h3
        show u_P L xs n d m_X12_housed 31 [(0, .ref 100), (1, .int a), (2, .int b), (3, .int i)] [] S R _
        refine u_st rfl (fun _ => rfl) ?_
        refine u_st rfl (fun _ => rfl) ?_
        show u_P L xs n d m_X12_housed 34 [(0, .ref 100), (1, .int a), (2, .int b), (3, .int i)] [.int (Int32.ofInt 20), .int i] S R _
        refine u_ic_eq rfl (fun h4 => ?_) (fun h4 => ?_)
        · have hD := hD.1 h4
          show u_P L xs n d m_X12_housed 59 [(0, .ref 100), (1, .int a), (2, .int b), (3, .int i)] [] S R _
          refine u_st rfl (fun _ => rfl) ?_
          refine u_st rfl (fun _ => rfl) ?_
          show u_P L xs n d m_X12_housed 61 [(0, .ref 100), (1, .int a), (2, .int b), (3, .int i)] [.int a, .ref 100] S R _
          refine u_cv (rest := []) rfl (by decide) mt_X12_takesSome v_tyM rfl rfl rfl (Nat.le_of_ble_eq_true rfl) (Nat.le_of_ble_eq_true rfl) (Nat.le_of_ble_eq_true rfl) (fun d' => c_X12_takesSome L xs n d' a S R) ?_
          rintro _ _ _ ⟨_, rfl, rfl, rfl, rfl⟩
          refine u_st rfl (fun _ => rfl) ?_
          refine u_st rfl (fun _ => rfl) ?_
          refine u_st rfl (fun _ => rfl) ?_
          show u_P L xs n d m_X12_housed 68 [(4, .int (f_X12_takesSome a S)), (0, .ref 100), (1, .int a), (2, .int b), (3, .int i)] [.int b, .ref 100] (g_X12_takesSome a S) R _
          refine u_cv (rest := []) rfl (by decide) mt_X12_takesPlaces v_tyM rfl rfl rfl (Nat.le_of_ble_eq_true rfl) (Nat.le_of_ble_eq_true rfl) (Nat.le_of_ble_eq_true rfl) (fun d' => c_X12_takesPlaces L xs n d' b (g_X12_takesSome a S) R) ?_
          rintro _ _ _ ⟨_, rfl, rfl, rfl, rfl⟩
          refine u_st rfl (fun _ => rfl) ?_
          refine u_st rfl (fun _ => rfl) ?_
          refine u_st rfl (fun _ => rfl) ?_
          refine u_st rfl (fun _ => rfl) ?_
          refine u_st rfl (fun _ => rfl) ?_
          refine u_lc (b := [(0, .ref 100), (1, .int a), (2, .int b), (3, .int i), (4, .int (f_X12_takesSome a S)), (5, .int (f_X12_takesPlaces b (g_X12_takesSome a S))), (6, .int (Int32.ofInt 1000000000)), (7, .int (Int32.ofInt 0))]) (show ([7, 6, 5, 4, 0, 1, 2, 3] : List Nat).Nodup by decide) (show ([0, 1, 2, 3, 4, 5, 6, 7] : List Nat).Nodup by decide) (fun i => match i with | 0 => rfl | 1 => rfl | 2 => rfl | 3 => rfl | 4 => rfl | 5 => rfl | 6 => rfl | 7 => rfl | _ + 8 => rfl) ?_
          exact (hd_X12_housed L xs a b i H81 K k81 n).1 d b a i (f_X12_takesSome a S) (f_X12_takesPlaces b (g_X12_takesSome a S)) (Int32.ofInt 1000000000) (Int32.ofInt 0) (g_X12_takesPlaces b (g_X12_takesSome a S)) hD
        · have hD := hD.2 h4
          show u_P L xs n d m_X12_housed 37 [(0, .ref 100), (1, .int a), (2, .int b), (3, .int i)] [] S R _
          refine u_st rfl (fun _ => rfl) ?_
          refine u_st rfl (fun _ => rfl) ?_
          refine u_st rfl (fun _ => rfl) ?_
          refine u_st rfl (fun _ => rfl) ?_
          show u_P L xs n d m_X12_housed 43 [(0, .ref 100), (1, .int a), (2, .int b), (3, .int i)] [.long (Int64.ofInt 11), .long (Int64.ofNat 0), .long i.toInt64] S R _
          refine u_cs (ac := [.long i.toInt64, .long (Int64.ofNat 0), .long (Int64.ofInt 11)]) (rest := []) rfl (by decide) mt_X12_lies (fun _ => rfl) (Nat.le_of_ble_eq_true rfl) (Nat.le_of_ble_eq_true rfl) (fun d' => z_liesC L xs n d' i (Int64.ofNat 0) (Int64.ofInt 11) (lo := 0) (hi := 11) rfl rfl S R) ?_
          rintro _ _ _ ⟨_, rfl, rfl, rfl, rfl⟩
          show u_P L xs n d m_X12_housed 46 [(0, .ref 100), (1, .int a), (2, .int b), (3, .int i)] [.int (z_in i 0 11)] S R _
          refine u_if_eq rfl (fun h5 => ?_) (fun h5 => ?_)
          · have hD := hD.1 h5
            show u_P L xs n d m_X12_housed 57 [(0, .ref 100), (1, .int a), (2, .int b), (3, .int i)] [] S R _
            refine u_st rfl (fun _ => rfl) ?_
            show u_P L xs n d m_X12_housed 58 [(0, .ref 100), (1, .int a), (2, .int b), (3, .int i)] [.int (Int32.ofInt (-1))] S R _
            exact u_ret rfl rfl ⟨_, rfl, rfl, hD⟩
          · have hD := hD.2 h5
            show u_P L xs n d m_X12_housed 49 [(0, .ref 100), (1, .int a), (2, .int b), (3, .int i)] [] S R _
            refine u_st rfl (fun _ => rfl) ?_
            refine u_st rfl (fun _ => rfl) ?_
            show u_P L xs n d m_X12_housed 51 [(0, .ref 100), (1, .int a), (2, .int b), (3, .int i)] [.int i, .int a] S R _
            refine u_cs (ac := [.int a, .int i]) (rest := []) rfl (by decide) mt_X12_has (fun _ => rfl) (Nat.le_of_ble_eq_true rfl) (Nat.le_of_ble_eq_true rfl) (fun d' => c_X12_has L xs n d' a i S R) ?_
            rintro _ _ _ ⟨_, rfl, rfl, rfl, rfl⟩
            show u_P L xs n d m_X12_housed 54 [(0, .ref 100), (1, .int a), (2, .int b), (3, .int i)] [.int (f_X12_has a i)] S R _
            refine u_if_ne rfl (fun h6 => ?_) (fun h6 => ?_)
            · have hD := hD.1 h6
              show u_P L xs n d m_X12_housed 59 [(0, .ref 100), (1, .int a), (2, .int b), (3, .int i)] [] S R _
              refine u_st rfl (fun _ => rfl) ?_
              refine u_st rfl (fun _ => rfl) ?_
              show u_P L xs n d m_X12_housed 61 [(0, .ref 100), (1, .int a), (2, .int b), (3, .int i)] [.int a, .ref 100] S R _
              refine u_cv (rest := []) rfl (by decide) mt_X12_takesSome v_tyM rfl rfl rfl (Nat.le_of_ble_eq_true rfl) (Nat.le_of_ble_eq_true rfl) (Nat.le_of_ble_eq_true rfl) (fun d' => c_X12_takesSome L xs n d' a S R) ?_
              rintro _ _ _ ⟨_, rfl, rfl, rfl, rfl⟩
              refine u_st rfl (fun _ => rfl) ?_
              refine u_st rfl (fun _ => rfl) ?_
              refine u_st rfl (fun _ => rfl) ?_
              show u_P L xs n d m_X12_housed 68 [(4, .int (f_X12_takesSome a S)), (0, .ref 100), (1, .int a), (2, .int b), (3, .int i)] [.int b, .ref 100] (g_X12_takesSome a S) R _
              refine u_cv (rest := []) rfl (by decide) mt_X12_takesPlaces v_tyM rfl rfl rfl (Nat.le_of_ble_eq_true rfl) (Nat.le_of_ble_eq_true rfl) (Nat.le_of_ble_eq_true rfl) (fun d' => c_X12_takesPlaces L xs n d' b (g_X12_takesSome a S) R) ?_
              rintro _ _ _ ⟨_, rfl, rfl, rfl, rfl⟩
              refine u_st rfl (fun _ => rfl) ?_
              refine u_st rfl (fun _ => rfl) ?_
              refine u_st rfl (fun _ => rfl) ?_
              refine u_st rfl (fun _ => rfl) ?_
              refine u_st rfl (fun _ => rfl) ?_
              refine u_lc (b := [(0, .ref 100), (1, .int a), (2, .int b), (3, .int i), (4, .int (f_X12_takesSome a S)), (5, .int (f_X12_takesPlaces b (g_X12_takesSome a S))), (6, .int (Int32.ofInt 1000000000)), (7, .int (Int32.ofInt 0))]) (show ([7, 6, 5, 4, 0, 1, 2, 3] : List Nat).Nodup by decide) (show ([0, 1, 2, 3, 4, 5, 6, 7] : List Nat).Nodup by decide) (fun i => match i with | 0 => rfl | 1 => rfl | 2 => rfl | 3 => rfl | 4 => rfl | 5 => rfl | 6 => rfl | 7 => rfl | _ + 8 => rfl) ?_
              exact (hd_X12_housed L xs a b i H81 K k81 n).1 d b a i (f_X12_takesSome a S) (f_X12_takesPlaces b (g_X12_takesSome a S)) (Int32.ofInt 1000000000) (Int32.ofInt 0) (g_X12_takesPlaces b (g_X12_takesSome a S)) hD
            · have hD := hD.2 h6
              show u_P L xs n d m_X12_housed 57 [(0, .ref 100), (1, .int a), (2, .int b), (3, .int i)] [] S R _
              refine u_st rfl (fun _ => rfl) ?_
              show u_P L xs n d m_X12_housed 58 [(0, .ref 100), (1, .int a), (2, .int b), (3, .int i)] [.int (Int32.ofInt (-1))] S R _
              exact u_ret rfl rfl ⟨_, rfl, rfl, hD⟩
noncomputable def r_X12_housed_81 (x1 : Int32) (x3 : Int32) (x4 : Int32) (x5 : Int32) : Nat → Nat → Int32 → v_Sf → Int32 × v_Sf
  | 0, k81, x6, S => (if ¬ x6 = (Int32.ofInt 1000000000) then (if ¬ x3 = (Int32.ofInt 20) then (S 153 ((S 155 ((f_X12_placeIn x1 x3).toInt.toNat)).toInt.toNat), S) else (x6, S)) else (Int32.ofInt (-2), S))
  | r + 1, k81, x6, S => (if ¬ (f_X12_isRoomFor x4 x5 (g_X12_opensRow (z_i k81) x4 x5 S)) = 0 then (if (f_X12_twosIn x4 (g_X12_opensRow (z_i k81) x4 x5 S)) < x6 then r_X12_housed_81 x1 x3 x4 x5 r (k81 + 1) (f_X12_twosIn x4 (g_X12_opensRow (z_i k81) x4 x5 S)) (g_X12_keepsRow x4 (g_X12_twosIn x4 (g_X12_opensRow (z_i k81) x4 x5 S))) else r_X12_housed_81 x1 x3 x4 x5 r (k81 + 1) x6 (g_X12_twosIn x4 (g_X12_opensRow (z_i k81) x4 x5 S))) else r_X12_housed_81 x1 x3 x4 x5 r (k81 + 1) x6 (g_X12_opensRow (z_i k81) x4 x5 S))
noncomputable def F_X12_housed (a : Int32) (b : Int32) (i : Int32) (S : v_Sf) : Int32 × v_Sf := (if (f_X12_areGusts a (Int32.ofInt 1) (Int32.ofInt 6) S) = 0 then (Int32.ofInt (-1), S) else (if (z_in b 1 63) = 0 then (Int32.ofInt (-1), S) else (if (Int32.ofInt 3) < (f_X12_sizeOf b) then (Int32.ofInt (-1), S) else (if i = (Int32.ofInt 20) then r_X12_housed_81 a i (f_X12_takesSome a S) (f_X12_takesPlaces b (g_X12_takesSome a S)) ((f_X12_powerOf (f_X12_takesPlaces b (g_X12_takesSome a S)) (f_X12_takesSome a S)).toInt.toNat - 0) 0 (Int32.ofInt 1000000000) (g_X12_takesPlaces b (g_X12_takesSome a S)) else (if (z_in i 0 11) = 0 then (Int32.ofInt (-1), S) else (if ¬ (f_X12_has a i) = 0 then r_X12_housed_81 a i (f_X12_takesSome a S) (f_X12_takesPlaces b (g_X12_takesSome a S)) ((f_X12_powerOf (f_X12_takesPlaces b (g_X12_takesSome a S)) (f_X12_takesSome a S)).toInt.toNat - 0) 0 (Int32.ofInt 1000000000) (g_X12_takesPlaces b (g_X12_takesSome a S)) else (Int32.ofInt (-1), S)))))))
noncomputable def f_X12_housed (a : Int32) (b : Int32) (i : Int32) (S : v_Sf) : Int32 := (F_X12_housed a b i S).1
noncomputable def g_X12_housed (a : Int32) (b : Int32) (i : Int32) (S : v_Sf) : v_Sf := (F_X12_housed a b i S).2
theorem c_X12_housed (L : Nat) (xs : Nat → Int32) (n d : Nat) (a : Int32) (b : Int32) (i : Int32) (S : v_Sf) (R : v_Rf) : u_P L xs n d m_X12_housed 0 (lv_args 0 [.ref 100, .int a, .int b, .int i]) [] S R (z_Q R (fun v S1 => f_X12_housed a b i S = v ∧ g_X12_housed a b i S = S1)) := by
  refine w_X12_housed L xs a b i (fun y1 y3 y4 y5 y6 y7 T => ∃ (k81 : Nat), k81 ≤ (f_X12_powerOf (f_X12_takesPlaces b (g_X12_takesSome a S)) (f_X12_takesSome a S)).toInt.toNat ∧ z_i k81 = y7 ∧ a = y1 ∧ i = y3 ∧ f_X12_takesSome a S = y4 ∧ f_X12_takesPlaces b (g_X12_takesSome a S) = y5 ∧ r_X12_housed_81 a i (f_X12_takesSome a S) (f_X12_takesPlaces b (g_X12_takesSome a S)) ((f_X12_powerOf (f_X12_takesPlaces b (g_X12_takesSome a S)) (f_X12_takesSome a S)).toInt.toNat - k81) k81 y6 T = F_X12_housed a b i S) (fun v S1 => f_X12_housed a b i S = v ∧ g_X12_housed a b i S = S1) ?_ n d S ?_
  · rintro _ _ _ _ x6 _ S1 ⟨k81, hkk, rfl, rfl, rfl, rfl, rfl, e⟩
    unfold D_X12_housed_81
    rcases Nat.lt_or_ge k81 ((f_X12_powerOf (f_X12_takesPlaces b (g_X12_takesSome a S)) (f_X12_takesSome a S)).toInt.toNat) with hk | hk
    · rw [show (f_X12_powerOf (f_X12_takesPlaces b (g_X12_takesSome a S)) (f_X12_takesSome a S)).toInt.toNat - k81 = ((f_X12_powerOf (f_X12_takesPlaces b (g_X12_takesSome a S)) (f_X12_takesSome a S)).toInt.toNat - (k81 + 1)) + 1 by omega, r_X12_housed_81] at e
      refine ⟨fun q1 => ?_, fun q1 => ?_⟩
      · exact absurd hk (Nat.not_lt.mpr (z_leV q1 (by omega)))
      · refine ⟨fun q2 => ?_, fun q2 => ?_⟩
        · refine ⟨fun q3 => ?_, fun q3 => ?_⟩
          · rw [if_pos q2, if_pos q3] at e
            exact ⟨(k81 + 1), by omega, (z_i1 k81).symm, rfl, rfl, rfl, rfl, e⟩
          · rw [if_pos q2, if_neg q3] at e
            exact ⟨(k81 + 1), by omega, (z_i1 k81).symm, rfl, rfl, rfl, rfl, e⟩
        · rw [if_neg q2] at e
          exact ⟨(k81 + 1), by omega, (z_i1 k81).symm, rfl, rfl, rfl, rfl, e⟩
    · rw [show (f_X12_powerOf (f_X12_takesPlaces b (g_X12_takesSome a S)) (f_X12_takesSome a S)).toInt.toNat - k81 = 0 by omega, r_X12_housed_81] at e
      refine ⟨fun q4 => ?_, fun q4 => ?_⟩
      · refine ⟨fun q5 => ?_, fun q5 => ?_⟩
        · refine ⟨fun q6 => ?_, fun q6 => ?_⟩
          · intro _ _
            intro _ _
            rw [if_pos q5, if_pos q6] at e
            have e1 := congrArg Prod.fst e.symm
            have e2 := congrArg Prod.snd e.symm
            exact ⟨e1, e2⟩
          · rw [if_pos q5, if_neg q6] at e
            have e1 := congrArg Prod.fst e.symm
            have e2 := congrArg Prod.snd e.symm
            exact ⟨e1, e2⟩
        · rw [if_neg q5] at e
          have e1 := congrArg Prod.fst e.symm
          have e2 := congrArg Prod.snd e.symm
          exact ⟨e1, e2⟩
      · exact absurd hk (Nat.not_le.mpr (z_ltV q4 (by omega)))
  · unfold D_X12_housed
    refine ⟨fun q7 => ?_, fun q7 => ?_⟩
    · have e : (Int32.ofInt (-1), S) = F_X12_housed a b i S := by rw [F_X12_housed, if_pos q7]
      have e1 := congrArg Prod.fst e.symm
      have e2 := congrArg Prod.snd e.symm
      exact ⟨e1, e2⟩
    · refine ⟨fun q8 => ?_, fun q8 => ?_⟩
      · have e : (Int32.ofInt (-1), S) = F_X12_housed a b i S := by rw [F_X12_housed, if_neg q7, if_pos q8]
        have e1 := congrArg Prod.fst e.symm
        have e2 := congrArg Prod.snd e.symm
        exact ⟨e1, e2⟩
      · refine ⟨fun q9 => ?_, fun q9 => ?_⟩
        · have e : (Int32.ofInt (-1), S) = F_X12_housed a b i S := by rw [F_X12_housed, if_neg q7, if_neg q8, if_pos q9]
          have e1 := congrArg Prod.fst e.symm
          have e2 := congrArg Prod.snd e.symm
          exact ⟨e1, e2⟩
        · refine ⟨fun q10 => ?_, fun q10 => ?_⟩
          · have e : r_X12_housed_81 a i (f_X12_takesSome a S) (f_X12_takesPlaces b (g_X12_takesSome a S)) ((f_X12_powerOf (f_X12_takesPlaces b (g_X12_takesSome a S)) (f_X12_takesSome a S)).toInt.toNat - 0) 0 (Int32.ofInt 1000000000) (g_X12_takesPlaces b (g_X12_takesSome a S)) = F_X12_housed a b i S := by rw [F_X12_housed, if_neg q7, if_neg q8, if_neg q9, if_pos q10]
            exact ⟨0, by omega, rfl, rfl, rfl, rfl, rfl, e⟩
          · refine ⟨fun q11 => ?_, fun q11 => ?_⟩
            · have e : (Int32.ofInt (-1), S) = F_X12_housed a b i S := by rw [F_X12_housed, if_neg q7, if_neg q8, if_neg q9, if_neg q10, if_pos q11]
              have e1 := congrArg Prod.fst e.symm
              have e2 := congrArg Prod.snd e.symm
              exact ⟨e1, e2⟩
            · refine ⟨fun q12 => ?_, fun q12 => ?_⟩
              · have e : r_X12_housed_81 a i (f_X12_takesSome a S) (f_X12_takesPlaces b (g_X12_takesSome a S)) ((f_X12_powerOf (f_X12_takesPlaces b (g_X12_takesSome a S)) (f_X12_takesSome a S)).toInt.toNat - 0) 0 (Int32.ofInt 1000000000) (g_X12_takesPlaces b (g_X12_takesSome a S)) = F_X12_housed a b i S := by rw [F_X12_housed, if_neg q7, if_neg q8, if_neg q9, if_neg q10, if_neg q11, if_pos q12]
                exact ⟨0, by omega, rfl, rfl, rfl, rfl, rfl, e⟩
              · have e : (Int32.ofInt (-1), S) = F_X12_housed a b i S := by rw [F_X12_housed, if_neg q7, if_neg q8, if_neg q9, if_neg q10, if_neg q11, if_neg q12]
                have e1 := congrArg Prod.fst e.symm
                have e2 := congrArg Prod.snd e.symm
                exact ⟨e1, e2⟩
noncomputable def D_X12_nursed_84  (H84 : Int32 → Int32 → Int32 → Int32 → Int32 → Int32 → v_Sf → Prop) (H124 : Int32 → Int32 → Int32 → Int32 → Int32 → Int32 → Int32 → Int32 → v_Sf → Prop) (K : Int32 → v_Sf → Prop) (x2 : Int32) (x3 : Int32) (x4 : Int32) (x5 : Int32) (x6 : Int32) (x7 : Int32) (S : v_Sf) : Prop := (((f_X12_powerOf x4 x4) ≤ x7 → (((¬ x3 = (Int32.ofInt 20)) → (0 ≤ (f_X12_placeIn x2 x3).toInt → (f_X12_placeIn x2 x3).toInt < 8 → (0 ≤ (S 155 ((f_X12_placeIn x2 x3).toInt.toNat)).toInt → (S 155 ((f_X12_placeIn x2 x3).toInt.toNat)).toInt < 12 → K (S 152 ((S 155 ((f_X12_placeIn x2 x3).toInt.toNat)).toInt.toNat)) S))) ∧ (¬ (¬ x3 = (Int32.ofInt 20)) → K x6 S))) ∧ (¬ ((f_X12_powerOf x4 x4) ≤ x7) → (((¬ (f_X12_isOrder x4 (g_X12_opensRow x7 x4 x4 S)) = 0) → H124 x2 x3 x4 x5 x6 x7 (Int32.ofInt 0) (Int32.ofInt 0) (g_X12_opensRow x7 x4 x4 S)) ∧ (¬ (¬ (f_X12_isOrder x4 (g_X12_opensRow x7 x4 x4 S)) = 0) → H84 x2 x3 x4 x5 x6 (x7 + (Int32.ofInt 1)) (g_X12_opensRow x7 x4 x4 S)))))
noncomputable def D_X12_nursed_124  (H84 : Int32 → Int32 → Int32 → Int32 → Int32 → Int32 → v_Sf → Prop) (H124 : Int32 → Int32 → Int32 → Int32 → Int32 → Int32 → Int32 → Int32 → v_Sf → Prop) (K : Int32 → v_Sf → Prop) (x2 : Int32) (x3 : Int32) (x4 : Int32) (x5 : Int32) (x6 : Int32) (x7 : Int32) (x8 : Int32) (x9 : Int32) (S : v_Sf) : Prop := ((x5 ≤ x9 → ((x8 < x6 → H84 x2 x3 x4 x5 x8 (x7 + (Int32.ofInt 1)) (g_X12_keepsRow x4 S)) ∧ (¬ (x8 < x6) → H84 x2 x3 x4 x5 x6 (x7 + (Int32.ofInt 1)) S))) ∧ (¬ (x5 ≤ x9) → (0 ≤ x9.toInt → x9.toInt < 8 → (0 ≤ (S 154 x9.toInt.toNat).toInt → (S 154 x9.toInt.toNat).toInt < 12 → (0 ≤ x9.toInt → x9.toInt < 6 → H124 x2 x3 x4 x5 x6 x7 (x8 + (f_X12_falling (S 152 ((S 154 x9.toInt.toNat).toInt.toNat)) (S 153 x9.toInt.toNat) S)) (x9 + (Int32.ofInt 1)) (g_X12_falling (S 152 ((S 154 x9.toInt.toNat).toInt.toNat)) (S 153 x9.toInt.toNat) S))))))
noncomputable def D_X12_nursed (a : Int32) (b : Int32) (i : Int32) (H84 : Int32 → Int32 → Int32 → Int32 → Int32 → Int32 → v_Sf → Prop) (H124 : Int32 → Int32 → Int32 → Int32 → Int32 → Int32 → Int32 → Int32 → v_Sf → Prop) (K : Int32 → v_Sf → Prop) (S : v_Sf) : Prop := ((a < (Int32.ofInt 1) → K (Int32.ofInt (-1)) S) ∧ (¬ (a < (Int32.ofInt 1)) → (((¬ (a &&& ((f_X12_toldNurses S) ^^^ (Int32.ofInt (-1)))) = 0) → K (Int32.ofInt (-1)) S) ∧ (¬ (¬ (a &&& ((f_X12_toldNurses S) ^^^ (Int32.ofInt (-1)))) = 0) → (((z_in b 1 63) = 0 → K (Int32.ofInt (-1)) S) ∧ (¬ ((z_in b 1 63) = 0) → (((¬ (f_X12_sizeOf a) = (f_X12_sizeOf b)) → K (Int32.ofInt (-1)) S) ∧ (¬ (¬ (f_X12_sizeOf a) = (f_X12_sizeOf b)) → ((i = (Int32.ofInt 20) → H84 b i (f_X12_takesPlaces b S) (f_X12_takesSome a (g_X12_takesPlaces b S)) (Int32.ofInt 1000000000) (Int32.ofInt 0) (g_X12_takesSome a (g_X12_takesPlaces b S))) ∧ (¬ (i = (Int32.ofInt 20)) → (((f_X12_isWard i) = 0 → K (Int32.ofInt (-1)) S) ∧ (¬ ((f_X12_isWard i) = 0) → (((¬ (f_X12_has b i) = 0) → H84 b i (f_X12_takesPlaces b S) (f_X12_takesSome a (g_X12_takesPlaces b S)) (Int32.ofInt 1000000000) (Int32.ofInt 0) (g_X12_takesSome a (g_X12_takesPlaces b S))) ∧ (¬ (¬ (f_X12_has b i) = 0) → K (Int32.ofInt (-1)) S))))))))))))))
set_option maxRecDepth 4000 in
theorem hd_X12_nursed (L : Nat) (xs : Nat → Int32) {R : v_Rf} (a : Int32) (b : Int32) (i : Int32) (H84 : Int32 → Int32 → Int32 → Int32 → Int32 → Int32 → v_Sf → Prop) (H124 : Int32 → Int32 → Int32 → Int32 → Int32 → Int32 → Int32 → Int32 → v_Sf → Prop) (K : Int32 → v_Sf → Prop) (k84 : ∀ (x2 : Int32) (x3 : Int32) (x4 : Int32) (x5 : Int32) (x6 : Int32) (x7 : Int32) (S : v_Sf), H84 x2 x3 x4 x5 x6 x7 S → D_X12_nursed_84 H84 H124 K x2 x3 x4 x5 x6 x7 S) (k124 : ∀ (x2 : Int32) (x3 : Int32) (x4 : Int32) (x5 : Int32) (x6 : Int32) (x7 : Int32) (x8 : Int32) (x9 : Int32) (S : v_Sf), H124 x2 x3 x4 x5 x6 x7 x8 x9 S → D_X12_nursed_124 H84 H124 K x2 x3 x4 x5 x6 x7 x8 x9 S) : ∀ n, (∀ (d : Nat) (j1 : Int32) (x2 : Int32) (x3 : Int32) (x4 : Int32) (x5 : Int32) (x6 : Int32) (x7 : Int32) (S : v_Sf), H84 x2 x3 x4 x5 x6 x7 S → u_P L xs n d m_X12_nursed 84 [(0, .ref 100), (1, .int j1), (2, .int x2), (3, .int x3), (4, .int x4), (5, .int x5), (6, .int x6), (7, .int x7)] [] S R (z_Q R K)) ∧ (∀ (d : Nat) (j1 : Int32) (j8 : Int32) (j9 : Int32) (x2 : Int32) (x3 : Int32) (x4 : Int32) (x5 : Int32) (x6 : Int32) (x7 : Int32) (S : v_Sf), H84 x2 x3 x4 x5 x6 x7 S → u_P L xs n d m_X12_nursed 84 [(0, .ref 100), (1, .int j1), (2, .int x2), (3, .int x3), (4, .int x4), (5, .int x5), (6, .int x6), (7, .int x7), (8, .int j8), (9, .int j9)] [] S R (z_Q R K)) ∧ (∀ (d : Nat) (j1 : Int32) (x2 : Int32) (x3 : Int32) (x4 : Int32) (x5 : Int32) (x6 : Int32) (x7 : Int32) (x8 : Int32) (x9 : Int32) (S : v_Sf), H124 x2 x3 x4 x5 x6 x7 x8 x9 S → u_P L xs n d m_X12_nursed 124 [(0, .ref 100), (1, .int j1), (2, .int x2), (3, .int x3), (4, .int x4), (5, .int x5), (6, .int x6), (7, .int x7), (8, .int x8), (9, .int x9)] [] S R (z_Q R K)) := by
  intro n
  induction n using Nat.strongRecOn with
  | ind n ih =>
    refine ⟨?_, ?_, ?_⟩
    · intro d j1 x2 x3 x4 x5 x6 x7 S hD
      have hD := k84 x2 x3 x4 x5 x6 x7 S hD
      unfold D_X12_nursed_84 at hD
      show u_P L xs n d m_X12_nursed 84 [(0, .ref 100), (1, .int j1), (2, .int x2), (3, .int x3), (4, .int x4), (5, .int x5), (6, .int x6), (7, .int x7)] [] S R _
      refine u_st1 rfl (fun _ => rfl) (fun m hm => ?_)
      refine u_st rfl (fun _ => rfl) ?_
      refine u_st rfl (fun _ => rfl) ?_
      show u_P L xs m d m_X12_nursed 90 [(0, .ref 100), (1, .int j1), (2, .int x2), (3, .int x3), (4, .int x4), (5, .int x5), (6, .int x6), (7, .int x7)] [.int x4, .int x4, .int x7] S R _
      refine u_cs (ac := [.int x4, .int x4]) (rest := [.int x7]) rfl (by decide) mt_X12_powerOf (fun _ => rfl) (Nat.le_of_ble_eq_true rfl) (Nat.le_of_ble_eq_true rfl) (fun d' => c_X12_powerOf L xs m d' x4 x4 S R) ?_
      rintro _ _ _ ⟨_, rfl, rfl, rfl, rfl⟩
      show u_P L xs m d m_X12_nursed 93 [(0, .ref 100), (1, .int j1), (2, .int x2), (3, .int x3), (4, .int x4), (5, .int x5), (6, .int x6), (7, .int x7)] [.int (f_X12_powerOf x4 x4), .int x7] S R _
      refine u_ic_ge rfl (fun h1 => ?_) (fun h1 => ?_)
      · have hD := hD.1 h1
        show u_P L xs m d m_X12_nursed 191 [(0, .ref 100), (1, .int j1), (2, .int x2), (3, .int x3), (4, .int x4), (5, .int x5), (6, .int x6), (7, .int x7)] [] S R _
        refine u_st rfl (fun _ => rfl) ?_
        refine u_st rfl (fun _ => rfl) ?_
        show u_P L xs m d m_X12_nursed 194 [(0, .ref 100), (1, .int j1), (2, .int x2), (3, .int x3), (4, .int x4), (5, .int x5), (6, .int x6), (7, .int x7)] [.int (Int32.ofInt 20), .int x3] S R _
        refine u_ic_ne rfl (fun h2 => ?_) (fun h2 => ?_)
        · have hD := hD.1 h2
          show u_P L xs m d m_X12_nursed 202 [(0, .ref 100), (1, .int j1), (2, .int x2), (3, .int x3), (4, .int x4), (5, .int x5), (6, .int x6), (7, .int x7)] [] S R _
          refine u_st rfl (fun _ => rfl) ?_
          show u_P L xs m d m_X12_nursed 203 [(0, .ref 100), (1, .int j1), (2, .int x2), (3, .int x3), (4, .int x4), (5, .int x5), (6, .int x6), (7, .int x7)] [.ref 100] S R _
          refine u_getr rfl v_tyM rfl ?_
          refine u_st rfl (fun _ => rfl) ?_
          show u_P L xs m d m_X12_nursed 207 [(0, .ref 100), (1, .int j1), (2, .int x2), (3, .int x3), (4, .int x4), (5, .int x5), (6, .int x6), (7, .int x7)] [.ref 100, .ref 153] S R _
          refine u_getr rfl v_tyM rfl ?_
          refine u_st rfl (fun _ => rfl) ?_
          refine u_st rfl (fun _ => rfl) ?_
          show u_P L xs m d m_X12_nursed 212 [(0, .ref 100), (1, .int j1), (2, .int x2), (3, .int x3), (4, .int x4), (5, .int x5), (6, .int x6), (7, .int x7)] [.int x3, .int x2, .ref 156, .ref 153] S R _
          refine u_cs (ac := [.int x2, .int x3]) (rest := [.ref 156, .ref 153]) rfl (by decide) mt_X12_placeIn (fun _ => rfl) (Nat.le_of_ble_eq_true rfl) (Nat.le_of_ble_eq_true rfl) (fun d' => c_X12_placeIn L xs m d' x2 x3 S R) ?_
          rintro _ _ _ ⟨_, rfl, rfl, rfl, rfl⟩
          show u_P L xs m d m_X12_nursed 215 [(0, .ref 100), (1, .int j1), (2, .int x2), (3, .int x3), (4, .int x4), (5, .int x5), (6, .int x6), (7, .int x7)] [.int (f_X12_placeIn x2 x3), .ref 156, .ref 153] S R _
          refine u_ialdE (v := S 155 ((f_X12_placeIn x2 x3).toInt.toNat)) rfl rfl rfl (fun b31 b32 => ?_)
          have hD := hD b31 b32
          show u_P L xs m d m_X12_nursed 216 [(0, .ref 100), (1, .int j1), (2, .int x2), (3, .int x3), (4, .int x4), (5, .int x5), (6, .int x6), (7, .int x7)] [.int (S 155 ((f_X12_placeIn x2 x3).toInt.toNat)), .ref 153] S R _
          refine u_ialdE (v := S 152 ((S 155 ((f_X12_placeIn x2 x3).toInt.toNat)).toInt.toNat)) rfl rfl rfl (fun b41 b42 => ?_)
          have hD := hD b41 b42
          show u_P L xs m d m_X12_nursed 217 [(0, .ref 100), (1, .int j1), (2, .int x2), (3, .int x3), (4, .int x4), (5, .int x5), (6, .int x6), (7, .int x7)] [.int (S 152 ((S 155 ((f_X12_placeIn x2 x3).toInt.toNat)).toInt.toNat))] S R _
          exact u_ret rfl rfl ⟨_, rfl, rfl, hD⟩
        · have hD := hD.2 h2
          show u_P L xs m d m_X12_nursed 197 [(0, .ref 100), (1, .int j1), (2, .int x2), (3, .int x3), (4, .int x4), (5, .int x5), (6, .int x6), (7, .int x7)] [] S R _
          refine u_st rfl (fun _ => rfl) ?_
          refine u_st rfl (fun _ => rfl) ?_
          show u_P L xs m d m_X12_nursed 217 [(0, .ref 100), (1, .int j1), (2, .int x2), (3, .int x3), (4, .int x4), (5, .int x5), (6, .int x6), (7, .int x7)] [.int x6] S R _
          exact u_ret rfl rfl ⟨_, rfl, rfl, hD⟩
      · have hD := hD.2 h1
        show u_P L xs m d m_X12_nursed 96 [(0, .ref 100), (1, .int j1), (2, .int x2), (3, .int x3), (4, .int x4), (5, .int x5), (6, .int x6), (7, .int x7)] [] S R _
        refine u_st rfl (fun _ => rfl) ?_
        refine u_st rfl (fun _ => rfl) ?_
        refine u_st rfl (fun _ => rfl) ?_
        refine u_st rfl (fun _ => rfl) ?_
        show u_P L xs m d m_X12_nursed 103 [(0, .ref 100), (1, .int j1), (2, .int x2), (3, .int x3), (4, .int x4), (5, .int x5), (6, .int x6), (7, .int x7)] [.int x4, .int x4, .int x7, .ref 100] S R _
        refine u_cv (rest := []) rfl (by decide) mt_X12_opensRow v_tyM rfl rfl rfl (Nat.le_of_ble_eq_true rfl) (Nat.le_of_ble_eq_true rfl) (Nat.le_of_ble_eq_true rfl) (fun d' => c_X12_opensRow L xs m d' x7 x4 x4 S R) ?_
        rintro _ _ _ ⟨rfl, rfl, rfl⟩
        refine u_st rfl (fun _ => rfl) ?_
        refine u_st rfl (fun _ => rfl) ?_
        show u_P L xs m d m_X12_nursed 109 [(0, .ref 100), (1, .int j1), (2, .int x2), (3, .int x3), (4, .int x4), (5, .int x5), (6, .int x6), (7, .int x7)] [.int x4, .ref 100] (g_X12_opensRow x7 x4 x4 S) R _
        refine u_cv (rest := []) rfl (by decide) mt_X12_isOrder v_tyM rfl rfl rfl (Nat.le_of_ble_eq_true rfl) (Nat.le_of_ble_eq_true rfl) (Nat.le_of_ble_eq_true rfl) (fun d' => c_X12_isOrder L xs m d' x4 (g_X12_opensRow x7 x4 x4 S) R) ?_
        rintro _ _ _ ⟨_, rfl, rfl, rfl, rfl⟩
        show u_P L xs m d m_X12_nursed 112 [(0, .ref 100), (1, .int j1), (2, .int x2), (3, .int x3), (4, .int x4), (5, .int x5), (6, .int x6), (7, .int x7)] [.int (f_X12_isOrder x4 (g_X12_opensRow x7 x4 x4 S))] (g_X12_opensRow x7 x4 x4 S) R _
        refine u_if_ne rfl (fun h5 => ?_) (fun h5 => ?_)
        · have hD := hD.1 h5
          show u_P L xs m d m_X12_nursed 118 [(0, .ref 100), (1, .int j1), (2, .int x2), (3, .int x3), (4, .int x4), (5, .int x5), (6, .int x6), (7, .int x7)] [] (g_X12_opensRow x7 x4 x4 S) R _
          refine u_st rfl (fun _ => rfl) ?_
          refine u_st rfl (fun _ => rfl) ?_
          refine u_st rfl (fun _ => rfl) ?_
          refine u_st rfl (fun _ => rfl) ?_
          refine u_lc (b := [(0, .ref 100), (1, .int j1), (2, .int x2), (3, .int x3), (4, .int x4), (5, .int x5), (6, .int x6), (7, .int x7), (8, .int (Int32.ofInt 0)), (9, .int (Int32.ofInt 0))]) (show ([9, 8, 0, 1, 2, 3, 4, 5, 6, 7] : List Nat).Nodup by decide) (show ([0, 1, 2, 3, 4, 5, 6, 7, 8, 9] : List Nat).Nodup by decide) (fun i => match i with | 0 => rfl | 1 => rfl | 2 => rfl | 3 => rfl | 4 => rfl | 5 => rfl | 6 => rfl | 7 => rfl | 8 => rfl | 9 => rfl | _ + 10 => rfl) ?_
          exact (ih m hm).2.2 d j1 x2 x3 x4 x5 x6 x7 (Int32.ofInt 0) (Int32.ofInt 0) (g_X12_opensRow x7 x4 x4 S) hD
        · have hD := hD.2 h5
          show u_P L xs m d m_X12_nursed 115 [(0, .ref 100), (1, .int j1), (2, .int x2), (3, .int x3), (4, .int x4), (5, .int x5), (6, .int x6), (7, .int x7)] [] (g_X12_opensRow x7 x4 x4 S) R _
          refine u_st rfl (fun _ => rfl) ?_
          refine u_st rfl (fun _ => rfl) ?_
          refine u_st rfl (fun _ => rfl) ?_
          refine u_lc (b := [(0, .ref 100), (1, .int j1), (2, .int x2), (3, .int x3), (4, .int x4), (5, .int x5), (6, .int x6), (7, .int (x7 + (Int32.ofInt 1)))]) (show ([7, 0, 1, 2, 3, 4, 5, 6] : List Nat).Nodup by decide) (show ([0, 1, 2, 3, 4, 5, 6, 7] : List Nat).Nodup by decide) (fun i => match i with | 0 => rfl | 1 => rfl | 2 => rfl | 3 => rfl | 4 => rfl | 5 => rfl | 6 => rfl | 7 => rfl | _ + 8 => rfl) ?_
          exact (ih m hm).1 d j1 x2 x3 x4 x5 x6 (x7 + (Int32.ofInt 1)) (g_X12_opensRow x7 x4 x4 S) hD
    · intro d j1 j8 j9 x2 x3 x4 x5 x6 x7 S hD
      have hD := k84 x2 x3 x4 x5 x6 x7 S hD
      unfold D_X12_nursed_84 at hD
      show u_P L xs n d m_X12_nursed 84 [(0, .ref 100), (1, .int j1), (2, .int x2), (3, .int x3), (4, .int x4), (5, .int x5), (6, .int x6), (7, .int x7), (8, .int j8), (9, .int j9)] [] S R _
      refine u_st1 rfl (fun _ => rfl) (fun m hm => ?_)
      refine u_st rfl (fun _ => rfl) ?_
      refine u_st rfl (fun _ => rfl) ?_
      show u_P L xs m d m_X12_nursed 90 [(0, .ref 100), (1, .int j1), (2, .int x2), (3, .int x3), (4, .int x4), (5, .int x5), (6, .int x6), (7, .int x7), (8, .int j8), (9, .int j9)] [.int x4, .int x4, .int x7] S R _
      refine u_cs (ac := [.int x4, .int x4]) (rest := [.int x7]) rfl (by decide) mt_X12_powerOf (fun _ => rfl) (Nat.le_of_ble_eq_true rfl) (Nat.le_of_ble_eq_true rfl) (fun d' => c_X12_powerOf L xs m d' x4 x4 S R) ?_
      rintro _ _ _ ⟨_, rfl, rfl, rfl, rfl⟩
      show u_P L xs m d m_X12_nursed 93 [(0, .ref 100), (1, .int j1), (2, .int x2), (3, .int x3), (4, .int x4), (5, .int x5), (6, .int x6), (7, .int x7), (8, .int j8), (9, .int j9)] [.int (f_X12_powerOf x4 x4), .int x7] S R _
      refine u_ic_ge rfl (fun h1 => ?_) (fun h1 => ?_)
      · have hD := hD.1 h1
        show u_P L xs m d m_X12_nursed 191 [(0, .ref 100), (1, .int j1), (2, .int x2), (3, .int x3), (4, .int x4), (5, .int x5), (6, .int x6), (7, .int x7), (8, .int j8), (9, .int j9)] [] S R _
        refine u_st rfl (fun _ => rfl) ?_
        refine u_st rfl (fun _ => rfl) ?_
        show u_P L xs m d m_X12_nursed 194 [(0, .ref 100), (1, .int j1), (2, .int x2), (3, .int x3), (4, .int x4), (5, .int x5), (6, .int x6), (7, .int x7), (8, .int j8), (9, .int j9)] [.int (Int32.ofInt 20), .int x3] S R _
        refine u_ic_ne rfl (fun h2 => ?_) (fun h2 => ?_)
        · have hD := hD.1 h2
          show u_P L xs m d m_X12_nursed 202 [(0, .ref 100), (1, .int j1), (2, .int x2), (3, .int x3), (4, .int x4), (5, .int x5), (6, .int x6), (7, .int x7), (8, .int j8), (9, .int j9)] [] S R _
          refine u_st rfl (fun _ => rfl) ?_
          show u_P L xs m d m_X12_nursed 203 [(0, .ref 100), (1, .int j1), (2, .int x2), (3, .int x3), (4, .int x4), (5, .int x5), (6, .int x6), (7, .int x7), (8, .int j8), (9, .int j9)] [.ref 100] S R _
          refine u_getr rfl v_tyM rfl ?_
          refine u_st rfl (fun _ => rfl) ?_
          show u_P L xs m d m_X12_nursed 207 [(0, .ref 100), (1, .int j1), (2, .int x2), (3, .int x3), (4, .int x4), (5, .int x5), (6, .int x6), (7, .int x7), (8, .int j8), (9, .int j9)] [.ref 100, .ref 153] S R _
          refine u_getr rfl v_tyM rfl ?_
          refine u_st rfl (fun _ => rfl) ?_
          refine u_st rfl (fun _ => rfl) ?_
          show u_P L xs m d m_X12_nursed 212 [(0, .ref 100), (1, .int j1), (2, .int x2), (3, .int x3), (4, .int x4), (5, .int x5), (6, .int x6), (7, .int x7), (8, .int j8), (9, .int j9)] [.int x3, .int x2, .ref 156, .ref 153] S R _
          refine u_cs (ac := [.int x2, .int x3]) (rest := [.ref 156, .ref 153]) rfl (by decide) mt_X12_placeIn (fun _ => rfl) (Nat.le_of_ble_eq_true rfl) (Nat.le_of_ble_eq_true rfl) (fun d' => c_X12_placeIn L xs m d' x2 x3 S R) ?_
          rintro _ _ _ ⟨_, rfl, rfl, rfl, rfl⟩
          show u_P L xs m d m_X12_nursed 215 [(0, .ref 100), (1, .int j1), (2, .int x2), (3, .int x3), (4, .int x4), (5, .int x5), (6, .int x6), (7, .int x7), (8, .int j8), (9, .int j9)] [.int (f_X12_placeIn x2 x3), .ref 156, .ref 153] S R _
          refine u_ialdE (v := S 155 ((f_X12_placeIn x2 x3).toInt.toNat)) rfl rfl rfl (fun b31 b32 => ?_)
          have hD := hD b31 b32
          show u_P L xs m d m_X12_nursed 216 [(0, .ref 100), (1, .int j1), (2, .int x2), (3, .int x3), (4, .int x4), (5, .int x5), (6, .int x6), (7, .int x7), (8, .int j8), (9, .int j9)] [.int (S 155 ((f_X12_placeIn x2 x3).toInt.toNat)), .ref 153] S R _
          refine u_ialdE (v := S 152 ((S 155 ((f_X12_placeIn x2 x3).toInt.toNat)).toInt.toNat)) rfl rfl rfl (fun b41 b42 => ?_)
          have hD := hD b41 b42
          show u_P L xs m d m_X12_nursed 217 [(0, .ref 100), (1, .int j1), (2, .int x2), (3, .int x3), (4, .int x4), (5, .int x5), (6, .int x6), (7, .int x7), (8, .int j8), (9, .int j9)] [.int (S 152 ((S 155 ((f_X12_placeIn x2 x3).toInt.toNat)).toInt.toNat))] S R _
          exact u_ret rfl rfl ⟨_, rfl, rfl, hD⟩
        · have hD := hD.2 h2
          show u_P L xs m d m_X12_nursed 197 [(0, .ref 100), (1, .int j1), (2, .int x2), (3, .int x3), (4, .int x4), (5, .int x5), (6, .int x6), (7, .int x7), (8, .int j8), (9, .int j9)] [] S R _
          refine u_st rfl (fun _ => rfl) ?_
          refine u_st rfl (fun _ => rfl) ?_
          show u_P L xs m d m_X12_nursed 217 [(0, .ref 100), (1, .int j1), (2, .int x2), (3, .int x3), (4, .int x4), (5, .int x5), (6, .int x6), (7, .int x7), (8, .int j8), (9, .int j9)] [.int x6] S R _
          exact u_ret rfl rfl ⟨_, rfl, rfl, hD⟩
      · have hD := hD.2 h1
        show u_P L xs m d m_X12_nursed 96 [(0, .ref 100), (1, .int j1), (2, .int x2), (3, .int x3), (4, .int x4), (5, .int x5), (6, .int x6), (7, .int x7), (8, .int j8), (9, .int j9)] [] S R _
        refine u_st rfl (fun _ => rfl) ?_
        refine u_st rfl (fun _ => rfl) ?_
        refine u_st rfl (fun _ => rfl) ?_
        refine u_st rfl (fun _ => rfl) ?_
        show u_P L xs m d m_X12_nursed 103 [(0, .ref 100), (1, .int j1), (2, .int x2), (3, .int x3), (4, .int x4), (5, .int x5), (6, .int x6), (7, .int x7), (8, .int j8), (9, .int j9)] [.int x4, .int x4, .int x7, .ref 100] S R _
        refine u_cv (rest := []) rfl (by decide) mt_X12_opensRow v_tyM rfl rfl rfl (Nat.le_of_ble_eq_true rfl) (Nat.le_of_ble_eq_true rfl) (Nat.le_of_ble_eq_true rfl) (fun d' => c_X12_opensRow L xs m d' x7 x4 x4 S R) ?_
        rintro _ _ _ ⟨rfl, rfl, rfl⟩
        refine u_st rfl (fun _ => rfl) ?_
        refine u_st rfl (fun _ => rfl) ?_
        show u_P L xs m d m_X12_nursed 109 [(0, .ref 100), (1, .int j1), (2, .int x2), (3, .int x3), (4, .int x4), (5, .int x5), (6, .int x6), (7, .int x7), (8, .int j8), (9, .int j9)] [.int x4, .ref 100] (g_X12_opensRow x7 x4 x4 S) R _
        refine u_cv (rest := []) rfl (by decide) mt_X12_isOrder v_tyM rfl rfl rfl (Nat.le_of_ble_eq_true rfl) (Nat.le_of_ble_eq_true rfl) (Nat.le_of_ble_eq_true rfl) (fun d' => c_X12_isOrder L xs m d' x4 (g_X12_opensRow x7 x4 x4 S) R) ?_
        rintro _ _ _ ⟨_, rfl, rfl, rfl, rfl⟩
        show u_P L xs m d m_X12_nursed 112 [(0, .ref 100), (1, .int j1), (2, .int x2), (3, .int x3), (4, .int x4), (5, .int x5), (6, .int x6), (7, .int x7), (8, .int j8), (9, .int j9)] [.int (f_X12_isOrder x4 (g_X12_opensRow x7 x4 x4 S))] (g_X12_opensRow x7 x4 x4 S) R _
        refine u_if_ne rfl (fun h5 => ?_) (fun h5 => ?_)
        · have hD := hD.1 h5
          show u_P L xs m d m_X12_nursed 118 [(0, .ref 100), (1, .int j1), (2, .int x2), (3, .int x3), (4, .int x4), (5, .int x5), (6, .int x6), (7, .int x7), (8, .int j8), (9, .int j9)] [] (g_X12_opensRow x7 x4 x4 S) R _
          refine u_st rfl (fun _ => rfl) ?_
          refine u_st rfl (fun _ => rfl) ?_
          refine u_st rfl (fun _ => rfl) ?_
          refine u_st rfl (fun _ => rfl) ?_
          refine u_lc (b := [(0, .ref 100), (1, .int j1), (2, .int x2), (3, .int x3), (4, .int x4), (5, .int x5), (6, .int x6), (7, .int x7), (8, .int (Int32.ofInt 0)), (9, .int (Int32.ofInt 0))]) (show ([9, 8, 0, 1, 2, 3, 4, 5, 6, 7] : List Nat).Nodup by decide) (show ([0, 1, 2, 3, 4, 5, 6, 7, 8, 9] : List Nat).Nodup by decide) (fun i => match i with | 0 => rfl | 1 => rfl | 2 => rfl | 3 => rfl | 4 => rfl | 5 => rfl | 6 => rfl | 7 => rfl | 8 => rfl | 9 => rfl | _ + 10 => rfl) ?_
          exact (ih m hm).2.2 d j1 x2 x3 x4 x5 x6 x7 (Int32.ofInt 0) (Int32.ofInt 0) (g_X12_opensRow x7 x4 x4 S) hD
        · have hD := hD.2 h5
          show u_P L xs m d m_X12_nursed 115 [(0, .ref 100), (1, .int j1), (2, .int x2), (3, .int x3), (4, .int x4), (5, .int x5), (6, .int x6), (7, .int x7), (8, .int j8), (9, .int j9)] [] (g_X12_opensRow x7 x4 x4 S) R _
          refine u_st rfl (fun _ => rfl) ?_
          refine u_st rfl (fun _ => rfl) ?_
          refine u_st rfl (fun _ => rfl) ?_
          refine u_lc (b := [(0, .ref 100), (1, .int j1), (2, .int x2), (3, .int x3), (4, .int x4), (5, .int x5), (6, .int x6), (7, .int (x7 + (Int32.ofInt 1))), (8, .int j8), (9, .int j9)]) (show ([7, 0, 1, 2, 3, 4, 5, 6, 8, 9] : List Nat).Nodup by decide) (show ([0, 1, 2, 3, 4, 5, 6, 7, 8, 9] : List Nat).Nodup by decide) (fun i => match i with | 0 => rfl | 1 => rfl | 2 => rfl | 3 => rfl | 4 => rfl | 5 => rfl | 6 => rfl | 7 => rfl | 8 => rfl | 9 => rfl | _ + 10 => rfl) ?_
          exact (ih m hm).2.1 d j1 j8 j9 x2 x3 x4 x5 x6 (x7 + (Int32.ofInt 1)) (g_X12_opensRow x7 x4 x4 S) hD
    · intro d j1 x2 x3 x4 x5 x6 x7 x8 x9 S hD
      have hD := k124 x2 x3 x4 x5 x6 x7 x8 x9 S hD
      unfold D_X12_nursed_124 at hD
      show u_P L xs n d m_X12_nursed 124 [(0, .ref 100), (1, .int j1), (2, .int x2), (3, .int x3), (4, .int x4), (5, .int x5), (6, .int x6), (7, .int x7), (8, .int x8), (9, .int x9)] [] S R _
      refine u_st1 rfl (fun _ => rfl) (fun m hm => ?_)
      refine u_st rfl (fun _ => rfl) ?_
      show u_P L xs m d m_X12_nursed 128 [(0, .ref 100), (1, .int j1), (2, .int x2), (3, .int x3), (4, .int x4), (5, .int x5), (6, .int x6), (7, .int x7), (8, .int x8), (9, .int x9)] [.int x5, .int x9] S R _
      refine u_ic_ge rfl (fun h1 => ?_) (fun h1 => ?_)
      · have hD := hD.1 h1
        show u_P L xs m d m_X12_nursed 165 [(0, .ref 100), (1, .int j1), (2, .int x2), (3, .int x3), (4, .int x4), (5, .int x5), (6, .int x6), (7, .int x7), (8, .int x8), (9, .int x9)] [] S R _
        refine u_st rfl (fun _ => rfl) ?_
        refine u_st rfl (fun _ => rfl) ?_
        show u_P L xs m d m_X12_nursed 169 [(0, .ref 100), (1, .int j1), (2, .int x2), (3, .int x3), (4, .int x4), (5, .int x5), (6, .int x6), (7, .int x7), (8, .int x8), (9, .int x9)] [.int x6, .int x8] S R _
        refine u_ic_lt rfl (fun h2 => ?_) (fun h2 => ?_)
        · have hD := hD.1 h2
          show u_P L xs m d m_X12_nursed 175 [(0, .ref 100), (1, .int j1), (2, .int x2), (3, .int x3), (4, .int x4), (5, .int x5), (6, .int x6), (7, .int x7), (8, .int x8), (9, .int x9)] [] S R _
          refine u_st rfl (fun _ => rfl) ?_
          refine u_st rfl (fun _ => rfl) ?_
          refine u_st rfl (fun _ => rfl) ?_
          refine u_st rfl (fun _ => rfl) ?_
          show u_P L xs m d m_X12_nursed 182 [(6, .int x8), (0, .ref 100), (1, .int j1), (2, .int x2), (3, .int x3), (4, .int x4), (5, .int x5), (7, .int x7), (8, .int x8), (9, .int x9)] [.int x4, .ref 100] S R _
          refine u_cv (rest := []) rfl (by decide) mt_X12_keepsRow v_tyM rfl rfl rfl (Nat.le_of_ble_eq_true rfl) (Nat.le_of_ble_eq_true rfl) (Nat.le_of_ble_eq_true rfl) (fun d' => c_X12_keepsRow L xs m d' x4 S R) ?_
          rintro _ _ _ ⟨rfl, rfl, rfl⟩
          refine u_st rfl (fun _ => rfl) ?_
          refine u_st rfl (fun _ => rfl) ?_
          refine u_lc (b := [(0, .ref 100), (1, .int j1), (2, .int x2), (3, .int x3), (4, .int x4), (5, .int x5), (6, .int x8), (7, .int (x7 + (Int32.ofInt 1))), (8, .int x8), (9, .int x9)]) (show ([7, 6, 0, 1, 2, 3, 4, 5, 8, 9] : List Nat).Nodup by decide) (show ([0, 1, 2, 3, 4, 5, 6, 7, 8, 9] : List Nat).Nodup by decide) (fun i => match i with | 0 => rfl | 1 => rfl | 2 => rfl | 3 => rfl | 4 => rfl | 5 => rfl | 6 => rfl | 7 => rfl | 8 => rfl | 9 => rfl | _ + 10 => rfl) ?_
          exact (ih m hm).2.1 d j1 x8 x9 x2 x3 x4 x5 x8 (x7 + (Int32.ofInt 1)) (g_X12_keepsRow x4 S) hD
        · have hD := hD.2 h2
          show u_P L xs m d m_X12_nursed 172 [(0, .ref 100), (1, .int j1), (2, .int x2), (3, .int x3), (4, .int x4), (5, .int x5), (6, .int x6), (7, .int x7), (8, .int x8), (9, .int x9)] [] S R _
          refine u_st rfl (fun _ => rfl) ?_
          refine u_st rfl (fun _ => rfl) ?_
          refine u_st rfl (fun _ => rfl) ?_
          refine u_lc (b := [(0, .ref 100), (1, .int j1), (2, .int x2), (3, .int x3), (4, .int x4), (5, .int x5), (6, .int x6), (7, .int (x7 + (Int32.ofInt 1))), (8, .int x8), (9, .int x9)]) (show ([7, 0, 1, 2, 3, 4, 5, 6, 8, 9] : List Nat).Nodup by decide) (show ([0, 1, 2, 3, 4, 5, 6, 7, 8, 9] : List Nat).Nodup by decide) (fun i => match i with | 0 => rfl | 1 => rfl | 2 => rfl | 3 => rfl | 4 => rfl | 5 => rfl | 6 => rfl | 7 => rfl | 8 => rfl | 9 => rfl | _ + 10 => rfl) ?_
          exact (ih m hm).2.1 d j1 x8 x9 x2 x3 x4 x5 x6 (x7 + (Int32.ofInt 1)) S hD
      · have hD := hD.2 h1
        show u_P L xs m d m_X12_nursed 131 [(0, .ref 100), (1, .int j1), (2, .int x2), (3, .int x3), (4, .int x4), (5, .int x5), (6, .int x6), (7, .int x7), (8, .int x8), (9, .int x9)] [] S R _
        refine u_st rfl (fun _ => rfl) ?_
        refine u_st rfl (fun _ => rfl) ?_
        refine u_st rfl (fun _ => rfl) ?_
        show u_P L xs m d m_X12_nursed 135 [(0, .ref 100), (1, .int j1), (2, .int x2), (3, .int x3), (4, .int x4), (5, .int x5), (6, .int x6), (7, .int x7), (8, .int x8), (9, .int x9)] [.ref 100, .ref 100, .int x8] S R _
        refine u_getr rfl v_tyM rfl ?_
        refine u_st rfl (fun _ => rfl) ?_
        show u_P L xs m d m_X12_nursed 139 [(0, .ref 100), (1, .int j1), (2, .int x2), (3, .int x3), (4, .int x4), (5, .int x5), (6, .int x6), (7, .int x7), (8, .int x8), (9, .int x9)] [.ref 100, .ref 153, .ref 100, .int x8] S R _
        refine u_getr rfl v_tyM rfl ?_
        refine u_st rfl (fun _ => rfl) ?_
        show u_P L xs m d m_X12_nursed 144 [(0, .ref 100), (1, .int j1), (2, .int x2), (3, .int x3), (4, .int x4), (5, .int x5), (6, .int x6), (7, .int x7), (8, .int x8), (9, .int x9)] [.int x9, .ref 155, .ref 153, .ref 100, .int x8] S R _
        refine u_ialdE (v := S 154 x9.toInt.toNat) rfl rfl rfl (fun b31 b32 => ?_)
        have hD := hD b31 b32
        show u_P L xs m d m_X12_nursed 145 [(0, .ref 100), (1, .int j1), (2, .int x2), (3, .int x3), (4, .int x4), (5, .int x5), (6, .int x6), (7, .int x7), (8, .int x8), (9, .int x9)] [.int (S 154 x9.toInt.toNat), .ref 153, .ref 100, .int x8] S R _
        refine u_ialdE (v := S 152 ((S 154 x9.toInt.toNat).toInt.toNat)) rfl rfl rfl (fun b41 b42 => ?_)
        have hD := hD b41 b42
        show u_P L xs m d m_X12_nursed 146 [(0, .ref 100), (1, .int j1), (2, .int x2), (3, .int x3), (4, .int x4), (5, .int x5), (6, .int x6), (7, .int x7), (8, .int x8), (9, .int x9)] [.int (S 152 ((S 154 x9.toInt.toNat).toInt.toNat)), .ref 100, .int x8] S R _
        refine u_st rfl (fun _ => rfl) ?_
        show u_P L xs m d m_X12_nursed 147 [(0, .ref 100), (1, .int j1), (2, .int x2), (3, .int x3), (4, .int x4), (5, .int x5), (6, .int x6), (7, .int x7), (8, .int x8), (9, .int x9)] [.ref 100, .int (S 152 ((S 154 x9.toInt.toNat).toInt.toNat)), .ref 100, .int x8] S R _
        refine u_getr rfl v_tyM rfl ?_
        refine u_st rfl (fun _ => rfl) ?_
        show u_P L xs m d m_X12_nursed 152 [(0, .ref 100), (1, .int j1), (2, .int x2), (3, .int x3), (4, .int x4), (5, .int x5), (6, .int x6), (7, .int x7), (8, .int x8), (9, .int x9)] [.int x9, .ref 154, .int (S 152 ((S 154 x9.toInt.toNat).toInt.toNat)), .ref 100, .int x8] S R _
        refine u_ialdE (v := S 153 x9.toInt.toNat) rfl rfl rfl (fun b51 b52 => ?_)
        have hD := hD b51 b52
        show u_P L xs m d m_X12_nursed 153 [(0, .ref 100), (1, .int j1), (2, .int x2), (3, .int x3), (4, .int x4), (5, .int x5), (6, .int x6), (7, .int x7), (8, .int x8), (9, .int x9)] [.int (S 153 x9.toInt.toNat), .int (S 152 ((S 154 x9.toInt.toNat).toInt.toNat)), .ref 100, .int x8] S R _
        refine u_cv (rest := [.int x8]) rfl (by decide) mt_X12_falling v_tyM rfl rfl rfl (Nat.le_of_ble_eq_true rfl) (Nat.le_of_ble_eq_true rfl) (Nat.le_of_ble_eq_true rfl) (fun d' => c_X12_falling L xs m d' (S 152 ((S 154 x9.toInt.toNat).toInt.toNat)) (S 153 x9.toInt.toNat) S R) ?_
        rintro _ _ _ ⟨_, rfl, rfl, rfl, rfl⟩
        refine u_st rfl (fun _ => rfl) ?_
        refine u_st rfl (fun _ => rfl) ?_
        refine u_st rfl (fun _ => rfl) ?_
        refine u_st rfl (fun _ => rfl) ?_
        refine u_lc (b := [(0, .ref 100), (1, .int j1), (2, .int x2), (3, .int x3), (4, .int x4), (5, .int x5), (6, .int x6), (7, .int x7), (8, .int (x8 + (f_X12_falling (S 152 ((S 154 x9.toInt.toNat).toInt.toNat)) (S 153 x9.toInt.toNat) S))), (9, .int (x9 + (Int32.ofInt 1)))]) (show ([9, 8, 0, 1, 2, 3, 4, 5, 6, 7] : List Nat).Nodup by decide) (show ([0, 1, 2, 3, 4, 5, 6, 7, 8, 9] : List Nat).Nodup by decide) (fun i => match i with | 0 => rfl | 1 => rfl | 2 => rfl | 3 => rfl | 4 => rfl | 5 => rfl | 6 => rfl | 7 => rfl | 8 => rfl | 9 => rfl | _ + 10 => rfl) ?_
        exact (ih m hm).2.2 d j1 x2 x3 x4 x5 x6 x7 (x8 + (f_X12_falling (S 152 ((S 154 x9.toInt.toNat).toInt.toNat)) (S 153 x9.toInt.toNat) S)) (x9 + (Int32.ofInt 1)) (g_X12_falling (S 152 ((S 154 x9.toInt.toNat).toInt.toNat)) (S 153 x9.toInt.toNat) S) hD
set_option maxRecDepth 4000 in
theorem w_X12_nursed (L : Nat) (xs : Nat → Int32) {R : v_Rf} (a : Int32) (b : Int32) (i : Int32) (H84 : Int32 → Int32 → Int32 → Int32 → Int32 → Int32 → v_Sf → Prop) (H124 : Int32 → Int32 → Int32 → Int32 → Int32 → Int32 → Int32 → Int32 → v_Sf → Prop) (K : Int32 → v_Sf → Prop) (k84 : ∀ (x2 : Int32) (x3 : Int32) (x4 : Int32) (x5 : Int32) (x6 : Int32) (x7 : Int32) (S : v_Sf), H84 x2 x3 x4 x5 x6 x7 S → D_X12_nursed_84 H84 H124 K x2 x3 x4 x5 x6 x7 S) (k124 : ∀ (x2 : Int32) (x3 : Int32) (x4 : Int32) (x5 : Int32) (x6 : Int32) (x7 : Int32) (x8 : Int32) (x9 : Int32) (S : v_Sf), H124 x2 x3 x4 x5 x6 x7 x8 x9 S → D_X12_nursed_124 H84 H124 K x2 x3 x4 x5 x6 x7 x8 x9 S) (n d : Nat) (S : v_Sf) (hD : D_X12_nursed a b i H84 H124 K S) : u_P L xs n d m_X12_nursed 0 (lv_args 0 [.ref 100, .int a, .int b, .int i]) [] S R (z_Q R K) := by
  unfold D_X12_nursed at hD
  show u_P L xs n d m_X12_nursed 0 [(0, .ref 100), (1, .int a), (2, .int b), (3, .int i)] [] S R _
  refine u_st rfl (fun _ => rfl) ?_
  refine u_st rfl (fun _ => rfl) ?_
  show u_P L xs n d m_X12_nursed 2 [(0, .ref 100), (1, .int a), (2, .int b), (3, .int i)] [.int (Int32.ofInt 1), .int a] S R _
  refine u_ic_lt rfl (fun h1 => ?_) (fun h1 => ?_)
  · have hD := hD.1 h1
    show u_P L xs n d m_X12_nursed 60 [(0, .ref 100), (1, .int a), (2, .int b), (3, .int i)] [] S R _
    refine u_st rfl (fun _ => rfl) ?_
    show u_P L xs n d m_X12_nursed 61 [(0, .ref 100), (1, .int a), (2, .int b), (3, .int i)] [.int (Int32.ofInt (-1))] S R _
    exact u_ret rfl rfl ⟨_, rfl, rfl, hD⟩
  · have hD := hD.2 h1
    show u_P L xs n d m_X12_nursed 5 [(0, .ref 100), (1, .int a), (2, .int b), (3, .int i)] [] S R _
    refine u_st rfl (fun _ => rfl) ?_
    refine u_st rfl (fun _ => rfl) ?_
    show u_P L xs n d m_X12_nursed 7 [(0, .ref 100), (1, .int a), (2, .int b), (3, .int i)] [.ref 100, .int a] S R _
    refine u_cv (rest := [.int a]) rfl (by decide) mt_X12_toldNurses v_tyM rfl rfl rfl (Nat.le_of_ble_eq_true rfl) (Nat.le_of_ble_eq_true rfl) (Nat.le_of_ble_eq_true rfl) (fun d' => c_X12_toldNurses L xs n d' S R) ?_
    rintro _ _ _ ⟨_, rfl, rfl, rfl, rfl⟩
    refine u_st rfl (fun _ => rfl) ?_
    refine u_st rfl (fun _ => rfl) ?_
    refine u_st rfl (fun _ => rfl) ?_
    show u_P L xs n d m_X12_nursed 13 [(0, .ref 100), (1, .int a), (2, .int b), (3, .int i)] [.int (a &&& ((f_X12_toldNurses S) ^^^ (Int32.ofInt (-1))))] S R _
    refine u_if_ne rfl (fun h2 => ?_) (fun h2 => ?_)
    · have hD := hD.1 h2
      show u_P L xs n d m_X12_nursed 60 [(0, .ref 100), (1, .int a), (2, .int b), (3, .int i)] [] S R _
      refine u_st rfl (fun _ => rfl) ?_
      show u_P L xs n d m_X12_nursed 61 [(0, .ref 100), (1, .int a), (2, .int b), (3, .int i)] [.int (Int32.ofInt (-1))] S R _
      exact u_ret rfl rfl ⟨_, rfl, rfl, hD⟩
    · have hD := hD.2 h2
      show u_P L xs n d m_X12_nursed 16 [(0, .ref 100), (1, .int a), (2, .int b), (3, .int i)] [] S R _
      refine u_st rfl (fun _ => rfl) ?_
      refine u_st rfl (fun _ => rfl) ?_
      refine u_st rfl (fun _ => rfl) ?_
      refine u_st rfl (fun _ => rfl) ?_
      show u_P L xs n d m_X12_nursed 22 [(0, .ref 100), (1, .int a), (2, .int b), (3, .int i)] [.long (Int64.ofInt 63), .long (Int64.ofNat 1), .long b.toInt64] S R _
      refine u_cs (ac := [.long b.toInt64, .long (Int64.ofNat 1), .long (Int64.ofInt 63)]) (rest := []) rfl (by decide) mt_X12_lies (fun _ => rfl) (Nat.le_of_ble_eq_true rfl) (Nat.le_of_ble_eq_true rfl) (fun d' => z_liesC L xs n d' b (Int64.ofNat 1) (Int64.ofInt 63) (lo := 1) (hi := 63) rfl rfl S R) ?_
      rintro _ _ _ ⟨_, rfl, rfl, rfl, rfl⟩
      show u_P L xs n d m_X12_nursed 25 [(0, .ref 100), (1, .int a), (2, .int b), (3, .int i)] [.int (z_in b 1 63)] S R _
      refine u_if_eq rfl (fun h3 => ?_) (fun h3 => ?_)
      · have hD := hD.1 h3
        show u_P L xs n d m_X12_nursed 60 [(0, .ref 100), (1, .int a), (2, .int b), (3, .int i)] [] S R _
        refine u_st rfl (fun _ => rfl) ?_
        show u_P L xs n d m_X12_nursed 61 [(0, .ref 100), (1, .int a), (2, .int b), (3, .int i)] [.int (Int32.ofInt (-1))] S R _
        exact u_ret rfl rfl ⟨_, rfl, rfl, hD⟩
      · have hD := hD.2 h3
        show u_P L xs n d m_X12_nursed 28 [(0, .ref 100), (1, .int a), (2, .int b), (3, .int i)] [] S R _
        refine u_st rfl (fun _ => rfl) ?_
        show u_P L xs n d m_X12_nursed 29 [(0, .ref 100), (1, .int a), (2, .int b), (3, .int i)] [.int a] S R _
        refine u_cs (ac := [.int a]) (rest := []) rfl (by decide) mt_X12_sizeOf (fun _ => rfl) (Nat.le_of_ble_eq_true rfl) (Nat.le_of_ble_eq_true rfl) (fun d' => c_X12_sizeOf L xs n d' a S R) ?_
        rintro _ _ _ ⟨_, rfl, rfl, rfl, rfl⟩
        refine u_st rfl (fun _ => rfl) ?_
        show u_P L xs n d m_X12_nursed 33 [(0, .ref 100), (1, .int a), (2, .int b), (3, .int i)] [.int b, .int (f_X12_sizeOf a)] S R _
        refine u_cs (ac := [.int b]) (rest := [.int (f_X12_sizeOf a)]) rfl (by decide) mt_X12_sizeOf (fun _ => rfl) (Nat.le_of_ble_eq_true rfl) (Nat.le_of_ble_eq_true rfl) (fun d' => c_X12_sizeOf L xs n d' b S R) ?_
        rintro _ _ _ ⟨_, rfl, rfl, rfl, rfl⟩
        show u_P L xs n d m_X12_nursed 36 [(0, .ref 100), (1, .int a), (2, .int b), (3, .int i)] [.int (f_X12_sizeOf b), .int (f_X12_sizeOf a)] S R _
        refine u_ic_ne rfl (fun h4 => ?_) (fun h4 => ?_)
        · have hD := hD.1 h4
          show u_P L xs n d m_X12_nursed 60 [(0, .ref 100), (1, .int a), (2, .int b), (3, .int i)] [] S R _
          refine u_st rfl (fun _ => rfl) ?_
          show u_P L xs n d m_X12_nursed 61 [(0, .ref 100), (1, .int a), (2, .int b), (3, .int i)] [.int (Int32.ofInt (-1))] S R _
          exact u_ret rfl rfl ⟨_, rfl, rfl, hD⟩
        · have hD := hD.2 h4
          show u_P L xs n d m_X12_nursed 39 [(0, .ref 100), (1, .int a), (2, .int b), (3, .int i)] [] S R _
          refine u_st rfl (fun _ => rfl) ?_
          refine u_st rfl (fun _ => rfl) ?_
          show u_P L xs n d m_X12_nursed 42 [(0, .ref 100), (1, .int a), (2, .int b), (3, .int i)] [.int (Int32.ofInt 20), .int i] S R _
          refine u_ic_eq rfl (fun h5 => ?_) (fun h5 => ?_)
          · have hD := hD.1 h5
            show u_P L xs n d m_X12_nursed 62 [(0, .ref 100), (1, .int a), (2, .int b), (3, .int i)] [] S R _
            refine u_st rfl (fun _ => rfl) ?_
            refine u_st rfl (fun _ => rfl) ?_
            show u_P L xs n d m_X12_nursed 64 [(0, .ref 100), (1, .int a), (2, .int b), (3, .int i)] [.int b, .ref 100] S R _
            refine u_cv (rest := []) rfl (by decide) mt_X12_takesPlaces v_tyM rfl rfl rfl (Nat.le_of_ble_eq_true rfl) (Nat.le_of_ble_eq_true rfl) (Nat.le_of_ble_eq_true rfl) (fun d' => c_X12_takesPlaces L xs n d' b S R) ?_
            rintro _ _ _ ⟨_, rfl, rfl, rfl, rfl⟩
            refine u_st rfl (fun _ => rfl) ?_
            refine u_st rfl (fun _ => rfl) ?_
            refine u_st rfl (fun _ => rfl) ?_
            show u_P L xs n d m_X12_nursed 71 [(4, .int (f_X12_takesPlaces b S)), (0, .ref 100), (1, .int a), (2, .int b), (3, .int i)] [.int a, .ref 100] (g_X12_takesPlaces b S) R _
            refine u_cv (rest := []) rfl (by decide) mt_X12_takesSome v_tyM rfl rfl rfl (Nat.le_of_ble_eq_true rfl) (Nat.le_of_ble_eq_true rfl) (Nat.le_of_ble_eq_true rfl) (fun d' => c_X12_takesSome L xs n d' a (g_X12_takesPlaces b S) R) ?_
            rintro _ _ _ ⟨_, rfl, rfl, rfl, rfl⟩
            refine u_st rfl (fun _ => rfl) ?_
            refine u_st rfl (fun _ => rfl) ?_
            refine u_st rfl (fun _ => rfl) ?_
            refine u_st rfl (fun _ => rfl) ?_
            refine u_st rfl (fun _ => rfl) ?_
            refine u_lc (b := [(0, .ref 100), (1, .int a), (2, .int b), (3, .int i), (4, .int (f_X12_takesPlaces b S)), (5, .int (f_X12_takesSome a (g_X12_takesPlaces b S))), (6, .int (Int32.ofInt 1000000000)), (7, .int (Int32.ofInt 0))]) (show ([7, 6, 5, 4, 0, 1, 2, 3] : List Nat).Nodup by decide) (show ([0, 1, 2, 3, 4, 5, 6, 7] : List Nat).Nodup by decide) (fun i => match i with | 0 => rfl | 1 => rfl | 2 => rfl | 3 => rfl | 4 => rfl | 5 => rfl | 6 => rfl | 7 => rfl | _ + 8 => rfl) ?_
            exact (hd_X12_nursed L xs a b i H84 H124 K k84 k124 n).1 d a b i (f_X12_takesPlaces b S) (f_X12_takesSome a (g_X12_takesPlaces b S)) (Int32.ofInt 1000000000) (Int32.ofInt 0) (g_X12_takesSome a (g_X12_takesPlaces b S)) hD
          · have hD := hD.2 h5
            show u_P L xs n d m_X12_nursed 45 [(0, .ref 100), (1, .int a), (2, .int b), (3, .int i)] [] S R _
            refine u_st rfl (fun _ => rfl) ?_
            show u_P L xs n d m_X12_nursed 46 [(0, .ref 100), (1, .int a), (2, .int b), (3, .int i)] [.int i] S R _
            refine u_cs (ac := [.int i]) (rest := []) rfl (by decide) mt_X12_isWard (fun _ => rfl) (Nat.le_of_ble_eq_true rfl) (Nat.le_of_ble_eq_true rfl) (fun d' => c_X12_isWard L xs n d' i S R) ?_
            rintro _ _ _ ⟨_, rfl, rfl, rfl, rfl⟩
            show u_P L xs n d m_X12_nursed 49 [(0, .ref 100), (1, .int a), (2, .int b), (3, .int i)] [.int (f_X12_isWard i)] S R _
            refine u_if_eq rfl (fun h6 => ?_) (fun h6 => ?_)
            · have hD := hD.1 h6
              show u_P L xs n d m_X12_nursed 60 [(0, .ref 100), (1, .int a), (2, .int b), (3, .int i)] [] S R _
              refine u_st rfl (fun _ => rfl) ?_
              show u_P L xs n d m_X12_nursed 61 [(0, .ref 100), (1, .int a), (2, .int b), (3, .int i)] [.int (Int32.ofInt (-1))] S R _
              exact u_ret rfl rfl ⟨_, rfl, rfl, hD⟩
            · have hD := hD.2 h6
              show u_P L xs n d m_X12_nursed 52 [(0, .ref 100), (1, .int a), (2, .int b), (3, .int i)] [] S R _
              refine u_st rfl (fun _ => rfl) ?_
              refine u_st rfl (fun _ => rfl) ?_
              show u_P L xs n d m_X12_nursed 54 [(0, .ref 100), (1, .int a), (2, .int b), (3, .int i)] [.int i, .int b] S R _
              refine u_cs (ac := [.int b, .int i]) (rest := []) rfl (by decide) mt_X12_has (fun _ => rfl) (Nat.le_of_ble_eq_true rfl) (Nat.le_of_ble_eq_true rfl) (fun d' => c_X12_has L xs n d' b i S R) ?_
              rintro _ _ _ ⟨_, rfl, rfl, rfl, rfl⟩
              show u_P L xs n d m_X12_nursed 57 [(0, .ref 100), (1, .int a), (2, .int b), (3, .int i)] [.int (f_X12_has b i)] S R _
              refine u_if_ne rfl (fun h7 => ?_) (fun h7 => ?_)
              · have hD := hD.1 h7
                show u_P L xs n d m_X12_nursed 62 [(0, .ref 100), (1, .int a), (2, .int b), (3, .int i)] [] S R _
                refine u_st rfl (fun _ => rfl) ?_
                refine u_st rfl (fun _ => rfl) ?_
                show u_P L xs n d m_X12_nursed 64 [(0, .ref 100), (1, .int a), (2, .int b), (3, .int i)] [.int b, .ref 100] S R _
                refine u_cv (rest := []) rfl (by decide) mt_X12_takesPlaces v_tyM rfl rfl rfl (Nat.le_of_ble_eq_true rfl) (Nat.le_of_ble_eq_true rfl) (Nat.le_of_ble_eq_true rfl) (fun d' => c_X12_takesPlaces L xs n d' b S R) ?_
                rintro _ _ _ ⟨_, rfl, rfl, rfl, rfl⟩
                refine u_st rfl (fun _ => rfl) ?_
                refine u_st rfl (fun _ => rfl) ?_
                refine u_st rfl (fun _ => rfl) ?_
                show u_P L xs n d m_X12_nursed 71 [(4, .int (f_X12_takesPlaces b S)), (0, .ref 100), (1, .int a), (2, .int b), (3, .int i)] [.int a, .ref 100] (g_X12_takesPlaces b S) R _
                refine u_cv (rest := []) rfl (by decide) mt_X12_takesSome v_tyM rfl rfl rfl (Nat.le_of_ble_eq_true rfl) (Nat.le_of_ble_eq_true rfl) (Nat.le_of_ble_eq_true rfl) (fun d' => c_X12_takesSome L xs n d' a (g_X12_takesPlaces b S) R) ?_
                rintro _ _ _ ⟨_, rfl, rfl, rfl, rfl⟩
                refine u_st rfl (fun _ => rfl) ?_
                refine u_st rfl (fun _ => rfl) ?_
                refine u_st rfl (fun _ => rfl) ?_
                refine u_st rfl (fun _ => rfl) ?_
                refine u_st rfl (fun _ => rfl) ?_
                refine u_lc (b := [(0, .ref 100), (1, .int a), (2, .int b), (3, .int i), (4, .int (f_X12_takesPlaces b S)), (5, .int (f_X12_takesSome a (g_X12_takesPlaces b S))), (6, .int (Int32.ofInt 1000000000)), (7, .int (Int32.ofInt 0))]) (show ([7, 6, 5, 4, 0, 1, 2, 3] : List Nat).Nodup by decide) (show ([0, 1, 2, 3, 4, 5, 6, 7] : List Nat).Nodup by decide) (fun i => match i with | 0 => rfl | 1 => rfl | 2 => rfl | 3 => rfl | 4 => rfl | 5 => rfl | 6 => rfl | 7 => rfl | _ + 8 => rfl) ?_
                exact (hd_X12_nursed L xs a b i H84 H124 K k84 k124 n).1 d a b i (f_X12_takesPlaces b S) (f_X12_takesSome a (g_X12_takesPlaces b S)) (Int32.ofInt 1000000000) (Int32.ofInt 0) (g_X12_takesSome a (g_X12_takesPlaces b S)) hD
              · have hD := hD.2 h7
                show u_P L xs n d m_X12_nursed 60 [(0, .ref 100), (1, .int a), (2, .int b), (3, .int i)] [] S R _
                refine u_st rfl (fun _ => rfl) ?_
                show u_P L xs n d m_X12_nursed 61 [(0, .ref 100), (1, .int a), (2, .int b), (3, .int i)] [.int (Int32.ofInt (-1))] S R _
                exact u_ret rfl rfl ⟨_, rfl, rfl, hD⟩
noncomputable def r_X12_nursed_124 (x2 : Int32) (x3 : Int32) (x4 : Int32) (x5 : Int32) (κ84 : Int32 → v_Sf → Int32 × v_Sf) (k84 : Nat) : Nat → Nat → Int32 → Int32 → v_Sf → Int32 × v_Sf
  | 0, k124, x6, x8, S => (if x8 < x6 then κ84 x8 (g_X12_keepsRow x4 S) else κ84 x6 S)
  | r + 1, k124, x6, x8, S => r_X12_nursed_124 x2 x3 x4 x5 κ84 k84 r (k124 + 1) x6 (x8 + (f_X12_falling (S 152 ((S 154 (z_i k124).toInt.toNat).toInt.toNat)) (S 153 (z_i k124).toInt.toNat) S)) (g_X12_falling (S 152 ((S 154 (z_i k124).toInt.toNat).toInt.toNat)) (S 153 (z_i k124).toInt.toNat) S)
noncomputable def r_X12_nursed_84 (x2 : Int32) (x3 : Int32) (x4 : Int32) (x5 : Int32) : Nat → Nat → Int32 → v_Sf → Int32 × v_Sf
  | 0, k84, x6, S => (if ¬ x3 = (Int32.ofInt 20) then (S 152 ((S 155 ((f_X12_placeIn x2 x3).toInt.toNat)).toInt.toNat), S) else (x6, S))
  | r + 1, k84, x6, S => (if ¬ (f_X12_isOrder x4 (g_X12_opensRow (z_i k84) x4 x4 S)) = 0 then r_X12_nursed_124 x2 x3 x4 x5 (fun v0 S => r_X12_nursed_84 x2 x3 x4 x5 r (k84 + 1) v0 S) k84 (x5.toInt.toNat - 0) 0 x6 (Int32.ofInt 0) (g_X12_opensRow (z_i k84) x4 x4 S) else r_X12_nursed_84 x2 x3 x4 x5 r (k84 + 1) x6 (g_X12_opensRow (z_i k84) x4 x4 S))
noncomputable def F_X12_nursed (a : Int32) (b : Int32) (i : Int32) (S : v_Sf) : Int32 × v_Sf := (if a < (Int32.ofInt 1) then (Int32.ofInt (-1), S) else (if ¬ (a &&& ((f_X12_toldNurses S) ^^^ (Int32.ofInt (-1)))) = 0 then (Int32.ofInt (-1), S) else (if (z_in b 1 63) = 0 then (Int32.ofInt (-1), S) else (if ¬ (f_X12_sizeOf a) = (f_X12_sizeOf b) then (Int32.ofInt (-1), S) else (if i = (Int32.ofInt 20) then r_X12_nursed_84 b i (f_X12_takesPlaces b S) (f_X12_takesSome a (g_X12_takesPlaces b S)) ((f_X12_powerOf (f_X12_takesPlaces b S) (f_X12_takesPlaces b S)).toInt.toNat - 0) 0 (Int32.ofInt 1000000000) (g_X12_takesSome a (g_X12_takesPlaces b S)) else (if (f_X12_isWard i) = 0 then (Int32.ofInt (-1), S) else (if ¬ (f_X12_has b i) = 0 then r_X12_nursed_84 b i (f_X12_takesPlaces b S) (f_X12_takesSome a (g_X12_takesPlaces b S)) ((f_X12_powerOf (f_X12_takesPlaces b S) (f_X12_takesPlaces b S)).toInt.toNat - 0) 0 (Int32.ofInt 1000000000) (g_X12_takesSome a (g_X12_takesPlaces b S)) else (Int32.ofInt (-1), S))))))))
noncomputable def f_X12_nursed (a : Int32) (b : Int32) (i : Int32) (S : v_Sf) : Int32 := (F_X12_nursed a b i S).1
noncomputable def g_X12_nursed (a : Int32) (b : Int32) (i : Int32) (S : v_Sf) : v_Sf := (F_X12_nursed a b i S).2
theorem c_X12_nursed (L : Nat) (xs : Nat → Int32) (n d : Nat) (a : Int32) (b : Int32) (i : Int32) (S : v_Sf) (R : v_Rf) : u_P L xs n d m_X12_nursed 0 (lv_args 0 [.ref 100, .int a, .int b, .int i]) [] S R (z_Q R (fun v S1 => f_X12_nursed a b i S = v ∧ g_X12_nursed a b i S = S1)) := by
  refine w_X12_nursed L xs a b i (fun y2 y3 y4 y5 y6 y7 T => ∃ (k84 : Nat), k84 ≤ (f_X12_powerOf (f_X12_takesPlaces b S) (f_X12_takesPlaces b S)).toInt.toNat ∧ z_i k84 = y7 ∧ b = y2 ∧ i = y3 ∧ f_X12_takesPlaces b S = y4 ∧ f_X12_takesSome a (g_X12_takesPlaces b S) = y5 ∧ r_X12_nursed_84 b i (f_X12_takesPlaces b S) (f_X12_takesSome a (g_X12_takesPlaces b S)) ((f_X12_powerOf (f_X12_takesPlaces b S) (f_X12_takesPlaces b S)).toInt.toNat - k84) k84 y6 T = F_X12_nursed a b i S) (fun y2 y3 y4 y5 y6 y7 y8 y9 T => ∃ (k84 k124 : Nat), k124 ≤ ((f_X12_takesSome a (g_X12_takesPlaces b S))).toInt.toNat ∧ z_i k124 = y9 ∧ k84 < (f_X12_powerOf (f_X12_takesPlaces b S) (f_X12_takesPlaces b S)).toInt.toNat ∧ z_i k84 = y7 ∧ b = y2 ∧ i = y3 ∧ f_X12_takesPlaces b S = y4 ∧ f_X12_takesSome a (g_X12_takesPlaces b S) = y5 ∧ r_X12_nursed_124 b i (f_X12_takesPlaces b S) (f_X12_takesSome a (g_X12_takesPlaces b S)) (fun v0 V => r_X12_nursed_84 b i (f_X12_takesPlaces b S) (f_X12_takesSome a (g_X12_takesPlaces b S)) ((f_X12_powerOf (f_X12_takesPlaces b S) (f_X12_takesPlaces b S)).toInt.toNat - (k84 + 1)) (k84 + 1) v0 V) k84 (((f_X12_takesSome a (g_X12_takesPlaces b S))).toInt.toNat - k124) k124 y6 y8 T = F_X12_nursed a b i S) (fun v S1 => f_X12_nursed a b i S = v ∧ g_X12_nursed a b i S = S1) ?_ ?_ n d S ?_
  · rintro _ _ _ _ x6 _ S1 ⟨k84, hkk, rfl, rfl, rfl, rfl, rfl, e⟩
    unfold D_X12_nursed_84
    rcases Nat.lt_or_ge k84 ((f_X12_powerOf (f_X12_takesPlaces b S) (f_X12_takesPlaces b S)).toInt.toNat) with hk | hk
    · rw [show (f_X12_powerOf (f_X12_takesPlaces b S) (f_X12_takesPlaces b S)).toInt.toNat - k84 = ((f_X12_powerOf (f_X12_takesPlaces b S) (f_X12_takesPlaces b S)).toInt.toNat - (k84 + 1)) + 1 by omega, r_X12_nursed_84] at e
      refine ⟨fun q1 => ?_, fun q1 => ?_⟩
      · exact absurd hk (Nat.not_lt.mpr (z_leV q1 (by omega)))
      · refine ⟨fun q2 => ?_, fun q2 => ?_⟩
        · rw [if_pos q2] at e
          exact ⟨k84, 0, by omega, rfl, by omega, rfl, rfl, rfl, rfl, rfl, e⟩
        · rw [if_neg q2] at e
          exact ⟨(k84 + 1), by omega, (z_i1 k84).symm, rfl, rfl, rfl, rfl, e⟩
    · rw [show (f_X12_powerOf (f_X12_takesPlaces b S) (f_X12_takesPlaces b S)).toInt.toNat - k84 = 0 by omega, r_X12_nursed_84] at e
      refine ⟨fun q3 => ?_, fun q3 => ?_⟩
      · refine ⟨fun q4 => ?_, fun q4 => ?_⟩
        · intro _ _
          intro _ _
          rw [if_pos q4] at e
          have e1 := congrArg Prod.fst e.symm
          have e2 := congrArg Prod.snd e.symm
          exact ⟨e1, e2⟩
        · rw [if_neg q4] at e
          have e1 := congrArg Prod.fst e.symm
          have e2 := congrArg Prod.snd e.symm
          exact ⟨e1, e2⟩
      · exact absurd hk (Nat.not_le.mpr (z_ltV q3 (by omega)))
  · rintro _ _ _ _ x6 _ x8 _ S1 ⟨k84, k124, hkk, rfl, hk84, rfl, rfl, rfl, rfl, rfl, e⟩
    unfold D_X12_nursed_124
    rcases Nat.lt_or_ge k124 (((f_X12_takesSome a (g_X12_takesPlaces b S))).toInt.toNat) with hk | hk
    · rw [show ((f_X12_takesSome a (g_X12_takesPlaces b S))).toInt.toNat - k124 = (((f_X12_takesSome a (g_X12_takesPlaces b S))).toInt.toNat - (k124 + 1)) + 1 by omega, r_X12_nursed_124] at e
      refine ⟨fun q5 => ?_, fun q5 => ?_⟩
      · exact absurd hk (Nat.not_lt.mpr (z_leV q5 (by omega)))
      · intro _ _
        intro _ _
        intro _ _
        exact ⟨k84, (k124 + 1), by omega, (z_i1 k124).symm, by omega, rfl, rfl, rfl, rfl, rfl, e⟩
    · rw [show ((f_X12_takesSome a (g_X12_takesPlaces b S))).toInt.toNat - k124 = 0 by omega, r_X12_nursed_124] at e
      refine ⟨fun q6 => ?_, fun q6 => ?_⟩
      · refine ⟨fun q7 => ?_, fun q7 => ?_⟩
        · rw [if_pos q7] at e
          exact ⟨(k84 + 1), by omega, (z_i1 k84).symm, rfl, rfl, rfl, rfl, e⟩
        · rw [if_neg q7] at e
          exact ⟨(k84 + 1), by omega, (z_i1 k84).symm, rfl, rfl, rfl, rfl, e⟩
      · exact absurd hk (Nat.not_le.mpr (z_ltV q6 (by omega)))
  · unfold D_X12_nursed
    refine ⟨fun q8 => ?_, fun q8 => ?_⟩
    · have e : (Int32.ofInt (-1), S) = F_X12_nursed a b i S := by rw [F_X12_nursed, if_pos q8]
      have e1 := congrArg Prod.fst e.symm
      have e2 := congrArg Prod.snd e.symm
      exact ⟨e1, e2⟩
    · refine ⟨fun q9 => ?_, fun q9 => ?_⟩
      · have e : (Int32.ofInt (-1), S) = F_X12_nursed a b i S := by rw [F_X12_nursed, if_neg q8, if_pos q9]
        have e1 := congrArg Prod.fst e.symm
        have e2 := congrArg Prod.snd e.symm
        exact ⟨e1, e2⟩
      · refine ⟨fun q10 => ?_, fun q10 => ?_⟩
        · have e : (Int32.ofInt (-1), S) = F_X12_nursed a b i S := by rw [F_X12_nursed, if_neg q8, if_neg q9, if_pos q10]
          have e1 := congrArg Prod.fst e.symm
          have e2 := congrArg Prod.snd e.symm
          exact ⟨e1, e2⟩
        · refine ⟨fun q11 => ?_, fun q11 => ?_⟩
          · have e : (Int32.ofInt (-1), S) = F_X12_nursed a b i S := by rw [F_X12_nursed, if_neg q8, if_neg q9, if_neg q10, if_pos q11]
            have e1 := congrArg Prod.fst e.symm
            have e2 := congrArg Prod.snd e.symm
            exact ⟨e1, e2⟩
          · refine ⟨fun q12 => ?_, fun q12 => ?_⟩
            · have e : r_X12_nursed_84 b i (f_X12_takesPlaces b S) (f_X12_takesSome a (g_X12_takesPlaces b S)) ((f_X12_powerOf (f_X12_takesPlaces b S) (f_X12_takesPlaces b S)).toInt.toNat - 0) 0 (Int32.ofInt 1000000000) (g_X12_takesSome a (g_X12_takesPlaces b S)) = F_X12_nursed a b i S := by rw [F_X12_nursed, if_neg q8, if_neg q9, if_neg q10, if_neg q11, if_pos q12]
              exact ⟨0, by omega, rfl, rfl, rfl, rfl, rfl, e⟩
            · refine ⟨fun q13 => ?_, fun q13 => ?_⟩
              · have e : (Int32.ofInt (-1), S) = F_X12_nursed a b i S := by rw [F_X12_nursed, if_neg q8, if_neg q9, if_neg q10, if_neg q11, if_neg q12, if_pos q13]
                have e1 := congrArg Prod.fst e.symm
                have e2 := congrArg Prod.snd e.symm
                exact ⟨e1, e2⟩
              · refine ⟨fun q14 => ?_, fun q14 => ?_⟩
                · have e : r_X12_nursed_84 b i (f_X12_takesPlaces b S) (f_X12_takesSome a (g_X12_takesPlaces b S)) ((f_X12_powerOf (f_X12_takesPlaces b S) (f_X12_takesPlaces b S)).toInt.toNat - 0) 0 (Int32.ofInt 1000000000) (g_X12_takesSome a (g_X12_takesPlaces b S)) = F_X12_nursed a b i S := by rw [F_X12_nursed, if_neg q8, if_neg q9, if_neg q10, if_neg q11, if_neg q12, if_neg q13, if_pos q14]
                  exact ⟨0, by omega, rfl, rfl, rfl, rfl, rfl, e⟩
                · have e : (Int32.ofInt (-1), S) = F_X12_nursed a b i S := by rw [F_X12_nursed, if_neg q8, if_neg q9, if_neg q10, if_neg q11, if_neg q12, if_neg q13, if_neg q14]
                  have e1 := congrArg Prod.fst e.symm
                  have e2 := congrArg Prod.snd e.symm
                  exact ⟨e1, e2⟩
end PrtS42yb
