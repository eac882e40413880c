section PrtS42l
noncomputable abbrev m_X11_wardAt : g_M := (g_cn 11, yX11_wardAt, cX11_wardAt, 2, (some (.object "GustHome$Ward")), g_look2 ttX11_wardAt)
set_option maxRecDepth 20000 in
theorem mt_X11_wardAt : g_mt 151 = some m_X11_wardAt := rfl
theorem c_X11_wardAt (L : Nat) (xs : Nat → Int32) (n d : Nat) {R : v_Rf} (hW : z_W R) (w : Int32) (S : v_Sf) : u_P L xs n d m_X11_wardAt 0 (lv_args 0 [.ref 1, .int w]) [] S R (z_WD R S w) := by
  show u_P L xs n d m_X11_wardAt 0 [(0, .ref 1), (1, .int w)] [] S R _
  refine u_st rfl (fun _ => rfl) ?_
  show u_P L xs n d m_X11_wardAt 1 [(0, .ref 1), (1, .int w)] [.int w] S R _
  refine u_if_lt rfl (fun h1 => ?_) (fun h1 => ?_)
  · show u_P L xs n d m_X11_wardAt 22 [(0, .ref 1), (1, .int w)] [] S R _
    refine u_st rfl (fun _ => rfl) ?_
    show u_P L xs n d m_X11_wardAt 23 [(0, .ref 1), (1, .int w)] [.null] S R _
    exact u_ret rfl rfl ⟨rfl, rfl, Or.inr ⟨z_wn1 h1, rfl⟩⟩
  · show u_P L xs n d m_X11_wardAt 4 [(0, .ref 1), (1, .int w)] [] S R _
    refine u_st rfl (fun _ => rfl) ?_
    refine u_st rfl (fun _ => rfl) ?_
    show u_P L xs n d m_X11_wardAt 6 [(0, .ref 1), (1, .int w)] [.ref 1, .int w] S R _
    refine u_getr rfl v_tyC rfl ?_
    show u_P L xs n d m_X11_wardAt 9 [(0, .ref 1), (1, .int w)] [.ref 33, .int w] S R _
    refine u_alr rfl rfl ?_
    show u_P L xs n d m_X11_wardAt 10 [(0, .ref 1), (1, .int w)] [.int (Int32.ofNat 6), .int w] S R _
    refine u_ic_ge rfl (fun h2 => ?_) (fun h2 => ?_)
    · show u_P L xs n d m_X11_wardAt 22 [(0, .ref 1), (1, .int w)] [] S R _
      refine u_st rfl (fun _ => rfl) ?_
      show u_P L xs n d m_X11_wardAt 23 [(0, .ref 1), (1, .int w)] [.null] S R _
      exact u_ret rfl rfl ⟨rfl, rfl, Or.inr ⟨z_wn2 h2, rfl⟩⟩
    · show u_P L xs n d m_X11_wardAt 13 [(0, .ref 1), (1, .int w)] [] S R _
      refine u_st rfl (fun _ => rfl) ?_
      show u_P L xs n d m_X11_wardAt 14 [(0, .ref 1), (1, .int w)] [.ref 1] S R _
      refine u_getr rfl v_tyC rfl ?_
      refine u_st rfl (fun _ => rfl) ?_
      show u_P L xs n d m_X11_wardAt 18 [(0, .ref 1), (1, .int w)] [.int w, .ref 33] S R _
      refine u_aald rfl rfl (fun b31 b32 => ?_)
      rw [hW _ (z_lt6 b31 b32)]
      refine u_st rfl (fun _ => rfl) ?_
      show u_P L xs n d m_X11_wardAt 23 [(0, .ref 1), (1, .int w)] [.ref (((33 + 2 * w.toInt.toNat)) + 1)] S R _
      exact u_ret rfl rfl ⟨rfl, rfl, Or.inl ⟨⟨b31, b32⟩, rfl⟩⟩
noncomputable abbrev m_X11_moves : g_M := (g_cn 11, yX11_moves, cX11_moves, 4, (some .boolean), g_look2 ttX11_moves)
set_option maxRecDepth 20000 in
theorem mt_X11_moves : g_mt 113 = some m_X11_moves := rfl
noncomputable def f_X11_moves (g : Int32) (w : Int32) (S : v_Sf) : Int32 := (if 0 ≤ w.toInt ∧ w.toInt < ((6 : Nat) : Int) then (if (f_X7_hasGust 1 g S) = 0 then Int32.ofInt 0 else (if ¬ (S 5 g.toInt.toNat) = w then (if (f_J6_bitCount_0f7a4 (f_X7_inWard 1 w S)) < (S ((33 + 2 * w.toInt.toNat)) 2) then Int32.ofInt 1 else Int32.ofInt 0) else Int32.ofInt 0)) else (if (f_X7_hasGust 1 g S) = 0 then Int32.ofInt 0 else Int32.ofInt 0))
noncomputable def g_X11_moves (g : Int32) (w : Int32) (S : v_Sf) : v_Sf := (if 0 ≤ w.toInt ∧ w.toInt < ((6 : Nat) : Int) then (if (f_X7_hasGust 1 g S) = 0 then S else (if ¬ (S 5 g.toInt.toNat) = w then (if (f_J6_bitCount_0f7a4 (f_X7_inWard 1 w S)) < (S ((33 + 2 * w.toInt.toNat)) 2) then z_s S 5 g.toInt.toNat w else S) else S)) else S)
set_option maxRecDepth 4000 in
theorem c_X11_moves (L : Nat) (xs : Nat → Int32) (n d : Nat) {R : v_Rf} (hW : z_W R) (g : Int32) (w : Int32) (S : v_Sf) : u_P L xs n d m_X11_moves 0 (lv_args 0 [.ref 1, .int g, .int w]) [] S R (z_Q R (fun v S1 => f_X11_moves g w S = v ∧ g_X11_moves g w S = S1)) := by
  show u_P L xs n d m_X11_moves 0 [(0, .ref 1), (1, .int g), (2, .int w)] [] S R _
  refine u_st rfl (fun _ => rfl) ?_
  refine u_st rfl (fun _ => rfl) ?_
  show u_P L xs n d m_X11_moves 2 [(0, .ref 1), (1, .int g), (2, .int w)] [.int w, .ref 1] S R _
  refine u_cv (rest := []) rfl (by decide) mt_X11_wardAt v_tyC rfl rfl rfl (Nat.le_of_ble_eq_true rfl) (Nat.le_of_ble_eq_true rfl) (Nat.le_of_ble_eq_true rfl) (fun d' => c_X11_wardAt L xs n d' hW w S) ?_
  rintro _ _ _ ⟨rfl, rfl, ⟨h1, rfl⟩ | ⟨h1, rfl⟩⟩
  · show u_P L xs n d m_X11_moves 5 [(0, .ref 1), (1, .int g), (2, .int w)] [.ref (((33 + 2 * w.toInt.toNat)) + 1)] S R _
    refine u_st rfl (fun _ => rfl) ?_
    refine u_st rfl (fun _ => rfl) ?_
    show u_P L xs n d m_X11_moves 7 [(3, .ref (((33 + 2 * w.toInt.toNat)) + 1)), (0, .ref 1), (1, .int g), (2, .int w)] [.ref 1] S R _
    refine u_getr rfl v_tyC rfl ?_
    refine u_st rfl (fun _ => rfl) ?_
    show u_P L xs n d m_X11_moves 11 [(3, .ref (((33 + 2 * w.toInt.toNat)) + 1)), (0, .ref 1), (1, .int g), (2, .int w)] [.int g, .ref 2] S R _
    refine u_cv (rest := []) rfl (by decide) mt_X7_hasGust rfl rfl rfl rfl (Nat.le_of_ble_eq_true rfl) (Nat.le_of_ble_eq_true rfl) (Nat.le_of_ble_eq_true rfl) (fun d' => c_X7_hasGust L xs n d' 1 (Or.inl rfl) g S R) ?_
    rintro _ _ _ ⟨_, rfl, rfl, rfl, rfl⟩
    show u_P L xs n d m_X11_moves 14 [(3, .ref (((33 + 2 * w.toInt.toNat)) + 1)), (0, .ref 1), (1, .int g), (2, .int w)] [.int (f_X7_hasGust 1 g S)] S R _
    refine u_if_eq rfl (fun h2 => ?_) (fun h2 => ?_)
    · show u_P L xs n d m_X11_moves 34 [(3, .ref (((33 + 2 * w.toInt.toNat)) + 1)), (0, .ref 1), (1, .int g), (2, .int w)] [] S R _
      refine u_st rfl (fun _ => rfl) ?_
      show u_P L xs n d m_X11_moves 35 [(3, .ref (((33 + 2 * w.toInt.toNat)) + 1)), (0, .ref 1), (1, .int g), (2, .int w)] [.int (Int32.ofInt 0)] S R _
      exact u_retb rfl rfl ⟨_, rfl, rfl, by rw [f_X11_moves, if_pos h1, if_pos h2], by rw [g_X11_moves, if_pos h1, if_pos h2]⟩
    · show u_P L xs n d m_X11_moves 17 [(3, .ref (((33 + 2 * w.toInt.toNat)) + 1)), (0, .ref 1), (1, .int g), (2, .int w)] [] S R _
      refine u_st rfl (fun _ => rfl) ?_
      refine u_st rfl (fun _ => rfl) ?_
      refine u_st rfl (fun _ => rfl) ?_
      show u_P L xs n d m_X11_moves 22 [(3, .ref (((33 + 2 * w.toInt.toNat)) + 1)), (0, .ref 1), (1, .int g), (2, .int w)] [.ref 1] S R _
      refine u_getr rfl v_tyC rfl ?_
      show u_P L xs n d m_X11_moves 25 [(3, .ref (((33 + 2 * w.toInt.toNat)) + 1)), (0, .ref 1), (1, .int g), (2, .int w)] [.ref 2] S R _
      refine u_getr rfl rfl rfl ?_
      refine u_st rfl (fun _ => rfl) ?_
      show u_P L xs n d m_X11_moves 29 [(3, .ref (((33 + 2 * w.toInt.toNat)) + 1)), (0, .ref 1), (1, .int g), (2, .int w)] [.int g, .ref 6] S R _
      refine u_ialdE (v := S 5 g.toInt.toNat) rfl rfl rfl (fun b31 b32 => ?_)
      refine u_st rfl (fun _ => rfl) ?_
      show u_P L xs n d m_X11_moves 31 [(3, .ref (((33 + 2 * w.toInt.toNat)) + 1)), (0, .ref 1), (1, .int g), (2, .int w)] [.int w, .int (S 5 g.toInt.toNat)] S R _
      refine u_ic_ne rfl (fun h4 => ?_) (fun h4 => ?_)
      · show u_P L xs n d m_X11_moves 36 [(3, .ref (((33 + 2 * w.toInt.toNat)) + 1)), (0, .ref 1), (1, .int g), (2, .int w)] [] S R _
        refine u_st rfl (fun _ => rfl) ?_
        show u_P L xs n d m_X11_moves 37 [(3, .ref (((33 + 2 * w.toInt.toNat)) + 1)), (0, .ref 1), (1, .int g), (2, .int w)] [.ref 1] S R _
        refine u_getr rfl v_tyC rfl ?_
        refine u_st rfl (fun _ => rfl) ?_
        show u_P L xs n d m_X11_moves 41 [(3, .ref (((33 + 2 * w.toInt.toNat)) + 1)), (0, .ref 1), (1, .int g), (2, .int w)] [.int w, .ref 2] S R _
        refine u_cv (rest := []) rfl (by decide) mt_X7_inWard rfl rfl rfl rfl (Nat.le_of_ble_eq_true rfl) (Nat.le_of_ble_eq_true rfl) (Nat.le_of_ble_eq_true rfl) (fun d' => c_X7_inWard L xs n d' 1 (Or.inl rfl) w S R) ?_
        rintro _ _ _ ⟨_, rfl, rfl, rfl, rfl⟩
        show u_P L xs n d m_X11_moves 44 [(3, .ref (((33 + 2 * w.toInt.toNat)) + 1)), (0, .ref 1), (1, .int g), (2, .int w)] [.int (f_X7_inWard 1 w S)] S R _
        refine u_cs (ac := [.int (f_X7_inWard 1 w S)]) (rest := []) rfl (by decide) mt_J6_bitCount_0f7a4 (fun _ => rfl) (Nat.le_of_ble_eq_true rfl) (Nat.le_of_ble_eq_true rfl) (fun d' => c_J6_bitCount_0f7a4 L xs n d' (f_X7_inWard 1 w S) S R) ?_
        rintro _ _ _ ⟨_, rfl, rfl, rfl, rfl⟩
        refine u_st rfl (fun _ => rfl) ?_
        show u_P L xs n d m_X11_moves 48 [(3, .ref (((33 + 2 * w.toInt.toNat)) + 1)), (0, .ref 1), (1, .int g), (2, .int w)] [.ref (((33 + 2 * w.toInt.toNat)) + 1), .int (f_J6_bitCount_0f7a4 (f_X7_inWard 1 w S))] S R _
        refine u_getE (v := S ((33 + 2 * w.toInt.toNat)) 2) rfl (z_wd0 (z_wdi h1.1 h1.2)) rfl rfl ?_
        show u_P L xs n d m_X11_moves 51 [(3, .ref (((33 + 2 * w.toInt.toNat)) + 1)), (0, .ref 1), (1, .int g), (2, .int w)] [.int (S ((33 + 2 * w.toInt.toNat)) 2), .int (f_J6_bitCount_0f7a4 (f_X7_inWard 1 w S))] S R _
        refine u_ic_lt rfl (fun h5 => ?_) (fun h5 => ?_)
        · show u_P L xs n d m_X11_moves 56 [(3, .ref (((33 + 2 * w.toInt.toNat)) + 1)), (0, .ref 1), (1, .int g), (2, .int w)] [] S R _
          refine u_st rfl (fun _ => rfl) ?_
          show u_P L xs n d m_X11_moves 57 [(3, .ref (((33 + 2 * w.toInt.toNat)) + 1)), (0, .ref 1), (1, .int g), (2, .int w)] [.ref 1] S R _
          refine u_getr rfl v_tyC rfl ?_
          show u_P L xs n d m_X11_moves 60 [(3, .ref (((33 + 2 * w.toInt.toNat)) + 1)), (0, .ref 1), (1, .int g), (2, .int w)] [.ref 2] S R _
          refine u_getr rfl rfl rfl ?_
          refine u_st rfl (fun _ => rfl) ?_
          refine u_st rfl (fun _ => rfl) ?_
          show u_P L xs n d m_X11_moves 65 [(3, .ref (((33 + 2 * w.toInt.toNat)) + 1)), (0, .ref 1), (1, .int g), (2, .int w)] [.int w, .int g, .ref 6] S R _
          refine u_iast rfl rfl (fun b61 b62 => ?_)
          refine u_st rfl (fun _ => rfl) ?_
          show u_P L xs n d m_X11_moves 67 [(3, .ref (((33 + 2 * w.toInt.toNat)) + 1)), (0, .ref 1), (1, .int g), (2, .int w)] [.int (Int32.ofInt 1)] (z_s S 5 g.toInt.toNat w) R _
          exact u_retb rfl rfl ⟨_, rfl, rfl, by rw [f_X11_moves, if_pos h1, if_neg h2, if_pos h4, if_pos h5], by rw [g_X11_moves, if_pos h1, if_neg h2, if_pos h4, if_pos h5]⟩
        · show u_P L xs n d m_X11_moves 54 [(3, .ref (((33 + 2 * w.toInt.toNat)) + 1)), (0, .ref 1), (1, .int g), (2, .int w)] [] S R _
          refine u_st rfl (fun _ => rfl) ?_
          show u_P L xs n d m_X11_moves 55 [(3, .ref (((33 + 2 * w.toInt.toNat)) + 1)), (0, .ref 1), (1, .int g), (2, .int w)] [.int (Int32.ofInt 0)] S R _
          exact u_retb rfl rfl ⟨_, rfl, rfl, by rw [f_X11_moves, if_pos h1, if_neg h2, if_pos h4, if_neg h5], by rw [g_X11_moves, if_pos h1, if_neg h2, if_pos h4, if_neg h5]⟩
      · show u_P L xs n d m_X11_moves 34 [(3, .ref (((33 + 2 * w.toInt.toNat)) + 1)), (0, .ref 1), (1, .int g), (2, .int w)] [] S R _
        refine u_st rfl (fun _ => rfl) ?_
        show u_P L xs n d m_X11_moves 35 [(3, .ref (((33 + 2 * w.toInt.toNat)) + 1)), (0, .ref 1), (1, .int g), (2, .int w)] [.int (Int32.ofInt 0)] S R _
        exact u_retb rfl rfl ⟨_, rfl, rfl, by rw [f_X11_moves, if_pos h1, if_neg h2, if_neg h4], by rw [g_X11_moves, if_pos h1, if_neg h2, if_neg h4]⟩
  · show u_P L xs n d m_X11_moves 5 [(0, .ref 1), (1, .int g), (2, .int w)] [.null] S R _
    refine u_st rfl (fun _ => rfl) ?_
    refine u_st rfl (fun _ => rfl) ?_
    show u_P L xs n d m_X11_moves 7 [(3, .null), (0, .ref 1), (1, .int g), (2, .int w)] [.ref 1] S R _
    refine u_getr rfl v_tyC rfl ?_
    refine u_st rfl (fun _ => rfl) ?_
    show u_P L xs n d m_X11_moves 11 [(3, .null), (0, .ref 1), (1, .int g), (2, .int w)] [.int g, .ref 2] S R _
    refine u_cv (rest := []) rfl (by decide) mt_X7_hasGust rfl rfl rfl rfl (Nat.le_of_ble_eq_true rfl) (Nat.le_of_ble_eq_true rfl) (Nat.le_of_ble_eq_true rfl) (fun d' => c_X7_hasGust L xs n d' 1 (Or.inl rfl) g S R) ?_
    rintro _ _ _ ⟨_, rfl, rfl, rfl, rfl⟩
    show u_P L xs n d m_X11_moves 14 [(3, .null), (0, .ref 1), (1, .int g), (2, .int w)] [.int (f_X7_hasGust 1 g S)] S R _
    refine u_if_eq rfl (fun h7 => ?_) (fun h7 => ?_)
    · show u_P L xs n d m_X11_moves 34 [(3, .null), (0, .ref 1), (1, .int g), (2, .int w)] [] S R _
      refine u_st rfl (fun _ => rfl) ?_
      show u_P L xs n d m_X11_moves 35 [(3, .null), (0, .ref 1), (1, .int g), (2, .int w)] [.int (Int32.ofInt 0)] S R _
      exact u_retb rfl rfl ⟨_, rfl, rfl, by rw [f_X11_moves, if_neg h1, if_pos h7], by rw [g_X11_moves, if_neg h1]⟩
    · show u_P L xs n d m_X11_moves 17 [(3, .null), (0, .ref 1), (1, .int g), (2, .int w)] [] S R _
      refine u_st rfl (fun _ => rfl) ?_
      refine u_st rfl (fun _ => rfl) ?_
      refine u_st rfl (fun _ => rfl) ?_
      show u_P L xs n d m_X11_moves 35 [(3, .null), (0, .ref 1), (1, .int g), (2, .int w)] [.int (Int32.ofInt 0)] S R _
      exact u_retb rfl rfl ⟨_, rfl, rfl, by rw [f_X11_moves, if_neg h1, if_neg h7], by rw [g_X11_moves, if_neg h1]⟩
noncomputable abbrev m_X11_ward : g_M := (g_cn 11, yX11_ward, cX11_ward, 7, (some .boolean), g_look2 ttX11_ward)
set_option maxRecDepth 20000 in
theorem mt_X11_ward : g_mt 115 = some m_X11_ward := rfl
noncomputable def f_X11_ward (w : Int32) (a : Int32) (b : Int32) (k : Int32) (S : v_Sf) : Int32 := (if 0 ≤ w.toInt ∧ w.toInt < ((6 : Nat) : Int) then (if (f_X11_within a (Int32.ofInt 9)) = 0 then Int32.ofInt 0 else (if (f_X11_within b (Int32.ofInt 9)) = 0 then Int32.ofInt 0 else (if k = (Int32.ofInt (-1)) then Int32.ofInt 1 else (if (f_X11_within k (Int32.ofInt 4)) = 0 then Int32.ofInt 0 else Int32.ofInt 1)))) else (if (f_X11_within a (Int32.ofInt 9)) = 0 then Int32.ofInt 0 else (if (f_X11_within b (Int32.ofInt 9)) = 0 then Int32.ofInt 0 else (if k = (Int32.ofInt (-1)) then Int32.ofInt 0 else (if (f_X11_within k (Int32.ofInt 4)) = 0 then Int32.ofInt 0 else Int32.ofInt 0)))))
noncomputable def g_X11_ward (w : Int32) (a : Int32) (b : Int32) (k : Int32) (S : v_Sf) : v_Sf := (if 0 ≤ w.toInt ∧ w.toInt < ((6 : Nat) : Int) then (if (f_X11_within a (Int32.ofInt 9)) = 0 then S else (if (f_X11_within b (Int32.ofInt 9)) = 0 then S else (if k = (Int32.ofInt (-1)) then z_s (z_s (z_s S ((33 + 2 * w.toInt.toNat)) 2 a) ((33 + 2 * w.toInt.toNat)) 3 b) ((33 + 2 * w.toInt.toNat)) 4 k else (if (f_X11_within k (Int32.ofInt 4)) = 0 then S else z_s (z_s (z_s S ((33 + 2 * w.toInt.toNat)) 2 a) ((33 + 2 * w.toInt.toNat)) 3 b) ((33 + 2 * w.toInt.toNat)) 4 k)))) else S)
set_option maxRecDepth 4000 in
theorem c_X11_ward (L : Nat) (xs : Nat → Int32) (n d : Nat) {R : v_Rf} (hW : z_W R) (w : Int32) (a : Int32) (b : Int32) (k : Int32) (S : v_Sf) : u_P L xs n d m_X11_ward 0 (lv_args 0 [.ref 1, .int w, .int a, .int b, .int k]) [] S R (z_Q R (fun v S1 => f_X11_ward w a b k S = v ∧ g_X11_ward w a b k S = S1)) := by
  show u_P L xs n d m_X11_ward 0 [(0, .ref 1), (1, .int w), (2, .int a), (3, .int b), (4, .int k)] [] S R _
  refine u_st rfl (fun _ => rfl) ?_
  refine u_st rfl (fun _ => rfl) ?_
  show u_P L xs n d m_X11_ward 2 [(0, .ref 1), (1, .int w), (2, .int a), (3, .int b), (4, .int k)] [.int w, .ref 1] S R _
  refine u_cv (rest := []) rfl (by decide) mt_X11_wardAt v_tyC rfl rfl rfl (Nat.le_of_ble_eq_true rfl) (Nat.le_of_ble_eq_true rfl) (Nat.le_of_ble_eq_true rfl) (fun d' => c_X11_wardAt L xs n d' hW w S) ?_
  rintro _ _ _ ⟨rfl, rfl, ⟨h1, rfl⟩ | ⟨h1, rfl⟩⟩
  · show u_P L xs n d m_X11_ward 5 [(0, .ref 1), (1, .int w), (2, .int a), (3, .int b), (4, .int k)] [.ref (((33 + 2 * w.toInt.toNat)) + 1)] S R _
    refine u_st rfl (fun _ => rfl) ?_
    refine u_st rfl (fun _ => rfl) ?_
    refine u_st rfl (fun _ => rfl) ?_
    show u_P L xs n d m_X11_ward 10 [(5, .ref (((33 + 2 * w.toInt.toNat)) + 1)), (0, .ref 1), (1, .int w), (2, .int a), (3, .int b), (4, .int k)] [.int (Int32.ofInt 9), .int a] S R _
    refine u_cs (ac := [.int a, .int (Int32.ofInt 9)]) (rest := []) rfl (by decide) mt_X11_within (fun _ => rfl) (Nat.le_of_ble_eq_true rfl) (Nat.le_of_ble_eq_true rfl) (fun d' => c_X11_within L xs n d' a (Int32.ofInt 9) S R) ?_
    rintro _ _ _ ⟨_, rfl, rfl, rfl, rfl⟩
    show u_P L xs n d m_X11_ward 13 [(5, .ref (((33 + 2 * w.toInt.toNat)) + 1)), (0, .ref 1), (1, .int w), (2, .int a), (3, .int b), (4, .int k)] [.int (f_X11_within a (Int32.ofInt 9))] S R _
    refine u_if_eq rfl (fun h2 => ?_) (fun h2 => ?_)
    · show u_P L xs n d m_X11_ward 44 [(5, .ref (((33 + 2 * w.toInt.toNat)) + 1)), (0, .ref 1), (1, .int w), (2, .int a), (3, .int b), (4, .int k)] [] S R _
      refine u_st rfl (fun _ => rfl) ?_
      refine u_st rfl (fun _ => rfl) ?_
      refine u_st rfl (fun _ => rfl) ?_
      refine u_st rfl (fun _ => rfl) ?_
      refine u_st rfl (fun _ => rfl) ?_
      show u_P L xs n d m_X11_ward 54 [(6, .int (Int32.ofInt 0)), (5, .ref (((33 + 2 * w.toInt.toNat)) + 1)), (0, .ref 1), (1, .int w), (2, .int a), (3, .int b), (4, .int k)] [.int (Int32.ofInt 0)] S R _
      refine u_st rfl (fun _ => rfl) ?_
      refine u_st rfl (fun _ => rfl) ?_
      show u_P L xs n d m_X11_ward 58 [(6, .int (Int32.ofInt 0)), (5, .ref (((33 + 2 * w.toInt.toNat)) + 1)), (0, .ref 1), (1, .int w), (2, .int a), (3, .int b), (4, .int k)] [.int (Int32.ofInt 0)] S R _
      exact u_retb rfl rfl ⟨_, rfl, rfl, by rw [f_X11_ward, if_pos h1, if_pos h2], by rw [g_X11_ward, if_pos h1, if_pos h2]⟩
    · show u_P L xs n d m_X11_ward 16 [(5, .ref (((33 + 2 * w.toInt.toNat)) + 1)), (0, .ref 1), (1, .int w), (2, .int a), (3, .int b), (4, .int k)] [] S R _
      refine u_st rfl (fun _ => rfl) ?_
      refine u_st rfl (fun _ => rfl) ?_
      show u_P L xs n d m_X11_ward 19 [(5, .ref (((33 + 2 * w.toInt.toNat)) + 1)), (0, .ref 1), (1, .int w), (2, .int a), (3, .int b), (4, .int k)] [.int (Int32.ofInt 9), .int b] S R _
      refine u_cs (ac := [.int b, .int (Int32.ofInt 9)]) (rest := []) rfl (by decide) mt_X11_within (fun _ => rfl) (Nat.le_of_ble_eq_true rfl) (Nat.le_of_ble_eq_true rfl) (fun d' => c_X11_within L xs n d' b (Int32.ofInt 9) S R) ?_
      rintro _ _ _ ⟨_, rfl, rfl, rfl, rfl⟩
      show u_P L xs n d m_X11_ward 22 [(5, .ref (((33 + 2 * w.toInt.toNat)) + 1)), (0, .ref 1), (1, .int w), (2, .int a), (3, .int b), (4, .int k)] [.int (f_X11_within b (Int32.ofInt 9))] S R _
      refine u_if_eq rfl (fun h3 => ?_) (fun h3 => ?_)
      · show u_P L xs n d m_X11_ward 44 [(5, .ref (((33 + 2 * w.toInt.toNat)) + 1)), (0, .ref 1), (1, .int w), (2, .int a), (3, .int b), (4, .int k)] [] S R _
        refine u_st rfl (fun _ => rfl) ?_
        refine u_st rfl (fun _ => rfl) ?_
        refine u_st rfl (fun _ => rfl) ?_
        refine u_st rfl (fun _ => rfl) ?_
        refine u_st rfl (fun _ => rfl) ?_
        show u_P L xs n d m_X11_ward 54 [(6, .int (Int32.ofInt 0)), (5, .ref (((33 + 2 * w.toInt.toNat)) + 1)), (0, .ref 1), (1, .int w), (2, .int a), (3, .int b), (4, .int k)] [.int (Int32.ofInt 0)] S R _
        refine u_st rfl (fun _ => rfl) ?_
        refine u_st rfl (fun _ => rfl) ?_
        show u_P L xs n d m_X11_ward 58 [(6, .int (Int32.ofInt 0)), (5, .ref (((33 + 2 * w.toInt.toNat)) + 1)), (0, .ref 1), (1, .int w), (2, .int a), (3, .int b), (4, .int k)] [.int (Int32.ofInt 0)] S R _
        exact u_retb rfl rfl ⟨_, rfl, rfl, by rw [f_X11_ward, if_pos h1, if_neg h2, if_pos h3], by rw [g_X11_ward, if_pos h1, if_neg h2, if_pos h3]⟩
      · show u_P L xs n d m_X11_ward 25 [(5, .ref (((33 + 2 * w.toInt.toNat)) + 1)), (0, .ref 1), (1, .int w), (2, .int a), (3, .int b), (4, .int k)] [] S R _
        refine u_st rfl (fun _ => rfl) ?_
        refine u_st rfl (fun _ => rfl) ?_
        show u_P L xs n d m_X11_ward 28 [(5, .ref (((33 + 2 * w.toInt.toNat)) + 1)), (0, .ref 1), (1, .int w), (2, .int a), (3, .int b), (4, .int k)] [.int (Int32.ofInt (-1)), .int k] S R _
        refine u_ic_eq rfl (fun h4 => ?_) (fun h4 => ?_)
        · show u_P L xs n d m_X11_ward 40 [(5, .ref (((33 + 2 * w.toInt.toNat)) + 1)), (0, .ref 1), (1, .int w), (2, .int a), (3, .int b), (4, .int k)] [] S R _
          refine u_st rfl (fun _ => rfl) ?_
          refine u_st rfl (fun _ => rfl) ?_
          refine u_st rfl (fun _ => rfl) ?_
          refine u_st rfl (fun _ => rfl) ?_
          refine u_st rfl (fun _ => rfl) ?_
          refine u_st rfl (fun _ => rfl) ?_
          show u_P L xs n d m_X11_ward 54 [(6, .int (Int32.ofInt 1)), (5, .ref (((33 + 2 * w.toInt.toNat)) + 1)), (0, .ref 1), (1, .int w), (2, .int a), (3, .int b), (4, .int k)] [.int (Int32.ofInt 1)] S R _
          refine u_st rfl (fun _ => rfl) ?_
          refine u_st rfl (fun _ => rfl) ?_
          refine u_st rfl (fun _ => rfl) ?_
          show u_P L xs n d m_X11_ward 62 [(6, .int (Int32.ofInt 1)), (5, .ref (((33 + 2 * w.toInt.toNat)) + 1)), (0, .ref 1), (1, .int w), (2, .int a), (3, .int b), (4, .int k)] [.int a, .ref (((33 + 2 * w.toInt.toNat)) + 1)] S R _
          refine u_put rfl (z_wd0 (z_wdi h1.1 h1.2)) rfl ?_
          refine u_st rfl (fun _ => rfl) ?_
          refine u_st rfl (fun _ => rfl) ?_
          show u_P L xs n d m_X11_ward 68 [(6, .int (Int32.ofInt 1)), (5, .ref (((33 + 2 * w.toInt.toNat)) + 1)), (0, .ref 1), (1, .int w), (2, .int a), (3, .int b), (4, .int k)] [.int b, .ref (((33 + 2 * w.toInt.toNat)) + 1)] (z_s S ((33 + 2 * w.toInt.toNat)) 2 a) R _
          refine u_put rfl (z_wd0 (z_wdi h1.1 h1.2)) rfl ?_
          refine u_st rfl (fun _ => rfl) ?_
          refine u_st rfl (fun _ => rfl) ?_
          show u_P L xs n d m_X11_ward 75 [(6, .int (Int32.ofInt 1)), (5, .ref (((33 + 2 * w.toInt.toNat)) + 1)), (0, .ref 1), (1, .int w), (2, .int a), (3, .int b), (4, .int k)] [.int k, .ref (((33 + 2 * w.toInt.toNat)) + 1)] (z_s (z_s S ((33 + 2 * w.toInt.toNat)) 2 a) ((33 + 2 * w.toInt.toNat)) 3 b) R _
          refine u_put rfl (z_wd0 (z_wdi h1.1 h1.2)) rfl ?_
          refine u_st rfl (fun _ => rfl) ?_
          show u_P L xs n d m_X11_ward 79 [(6, .int (Int32.ofInt 1)), (5, .ref (((33 + 2 * w.toInt.toNat)) + 1)), (0, .ref 1), (1, .int w), (2, .int a), (3, .int b), (4, .int k)] [.int (Int32.ofInt 1)] (z_s (z_s (z_s S ((33 + 2 * w.toInt.toNat)) 2 a) ((33 + 2 * w.toInt.toNat)) 3 b) ((33 + 2 * w.toInt.toNat)) 4 k) R _
          exact u_retb rfl rfl ⟨_, rfl, rfl, by rw [f_X11_ward, if_pos h1, if_neg h2, if_neg h3, if_pos h4], by rw [g_X11_ward, if_pos h1, if_neg h2, if_neg h3, if_pos h4]⟩
        · show u_P L xs n d m_X11_ward 31 [(5, .ref (((33 + 2 * w.toInt.toNat)) + 1)), (0, .ref 1), (1, .int w), (2, .int a), (3, .int b), (4, .int k)] [] S R _
          refine u_st rfl (fun _ => rfl) ?_
          refine u_st rfl (fun _ => rfl) ?_
          show u_P L xs n d m_X11_ward 34 [(5, .ref (((33 + 2 * w.toInt.toNat)) + 1)), (0, .ref 1), (1, .int w), (2, .int a), (3, .int b), (4, .int k)] [.int (Int32.ofInt 4), .int k] S R _
          refine u_cs (ac := [.int k, .int (Int32.ofInt 4)]) (rest := []) rfl (by decide) mt_X11_within (fun _ => rfl) (Nat.le_of_ble_eq_true rfl) (Nat.le_of_ble_eq_true rfl) (fun d' => c_X11_within L xs n d' k (Int32.ofInt 4) S R) ?_
          rintro _ _ _ ⟨_, rfl, rfl, rfl, rfl⟩
          show u_P L xs n d m_X11_ward 37 [(5, .ref (((33 + 2 * w.toInt.toNat)) + 1)), (0, .ref 1), (1, .int w), (2, .int a), (3, .int b), (4, .int k)] [.int (f_X11_within k (Int32.ofInt 4))] S R _
          refine u_if_eq rfl (fun h5 => ?_) (fun h5 => ?_)
          · show u_P L xs n d m_X11_ward 44 [(5, .ref (((33 + 2 * w.toInt.toNat)) + 1)), (0, .ref 1), (1, .int w), (2, .int a), (3, .int b), (4, .int k)] [] S R _
            refine u_st rfl (fun _ => rfl) ?_
            refine u_st rfl (fun _ => rfl) ?_
            refine u_st rfl (fun _ => rfl) ?_
            refine u_st rfl (fun _ => rfl) ?_
            refine u_st rfl (fun _ => rfl) ?_
            show u_P L xs n d m_X11_ward 54 [(6, .int (Int32.ofInt 0)), (5, .ref (((33 + 2 * w.toInt.toNat)) + 1)), (0, .ref 1), (1, .int w), (2, .int a), (3, .int b), (4, .int k)] [.int (Int32.ofInt 0)] S R _
            refine u_st rfl (fun _ => rfl) ?_
            refine u_st rfl (fun _ => rfl) ?_
            show u_P L xs n d m_X11_ward 58 [(6, .int (Int32.ofInt 0)), (5, .ref (((33 + 2 * w.toInt.toNat)) + 1)), (0, .ref 1), (1, .int w), (2, .int a), (3, .int b), (4, .int k)] [.int (Int32.ofInt 0)] S R _
            exact u_retb rfl rfl ⟨_, rfl, rfl, by rw [f_X11_ward, if_pos h1, if_neg h2, if_neg h3, if_neg h4, if_pos h5], by rw [g_X11_ward, if_pos h1, if_neg h2, if_neg h3, if_neg h4, if_pos h5]⟩
          · show u_P L xs n d m_X11_ward 40 [(5, .ref (((33 + 2 * w.toInt.toNat)) + 1)), (0, .ref 1), (1, .int w), (2, .int a), (3, .int b), (4, .int k)] [] S R _
            refine u_st rfl (fun _ => rfl) ?_
            refine u_st rfl (fun _ => rfl) ?_
            refine u_st rfl (fun _ => rfl) ?_
            refine u_st rfl (fun _ => rfl) ?_
            refine u_st rfl (fun _ => rfl) ?_
            refine u_st rfl (fun _ => rfl) ?_
            show u_P L xs n d m_X11_ward 54 [(6, .int (Int32.ofInt 1)), (5, .ref (((33 + 2 * w.toInt.toNat)) + 1)), (0, .ref 1), (1, .int w), (2, .int a), (3, .int b), (4, .int k)] [.int (Int32.ofInt 1)] S R _
            refine u_st rfl (fun _ => rfl) ?_
            refine u_st rfl (fun _ => rfl) ?_
            refine u_st rfl (fun _ => rfl) ?_
            show u_P L xs n d m_X11_ward 62 [(6, .int (Int32.ofInt 1)), (5, .ref (((33 + 2 * w.toInt.toNat)) + 1)), (0, .ref 1), (1, .int w), (2, .int a), (3, .int b), (4, .int k)] [.int a, .ref (((33 + 2 * w.toInt.toNat)) + 1)] S R _
            refine u_put rfl (z_wd0 (z_wdi h1.1 h1.2)) rfl ?_
            refine u_st rfl (fun _ => rfl) ?_
            refine u_st rfl (fun _ => rfl) ?_
            show u_P L xs n d m_X11_ward 68 [(6, .int (Int32.ofInt 1)), (5, .ref (((33 + 2 * w.toInt.toNat)) + 1)), (0, .ref 1), (1, .int w), (2, .int a), (3, .int b), (4, .int k)] [.int b, .ref (((33 + 2 * w.toInt.toNat)) + 1)] (z_s S ((33 + 2 * w.toInt.toNat)) 2 a) R _
            refine u_put rfl (z_wd0 (z_wdi h1.1 h1.2)) rfl ?_
            refine u_st rfl (fun _ => rfl) ?_
            refine u_st rfl (fun _ => rfl) ?_
            show u_P L xs n d m_X11_ward 75 [(6, .int (Int32.ofInt 1)), (5, .ref (((33 + 2 * w.toInt.toNat)) + 1)), (0, .ref 1), (1, .int w), (2, .int a), (3, .int b), (4, .int k)] [.int k, .ref (((33 + 2 * w.toInt.toNat)) + 1)] (z_s (z_s S ((33 + 2 * w.toInt.toNat)) 2 a) ((33 + 2 * w.toInt.toNat)) 3 b) R _
            refine u_put rfl (z_wd0 (z_wdi h1.1 h1.2)) rfl ?_
            refine u_st rfl (fun _ => rfl) ?_
            show u_P L xs n d m_X11_ward 79 [(6, .int (Int32.ofInt 1)), (5, .ref (((33 + 2 * w.toInt.toNat)) + 1)), (0, .ref 1), (1, .int w), (2, .int a), (3, .int b), (4, .int k)] [.int (Int32.ofInt 1)] (z_s (z_s (z_s S ((33 + 2 * w.toInt.toNat)) 2 a) ((33 + 2 * w.toInt.toNat)) 3 b) ((33 + 2 * w.toInt.toNat)) 4 k) R _
            exact u_retb rfl rfl ⟨_, rfl, rfl, by rw [f_X11_ward, if_pos h1, if_neg h2, if_neg h3, if_neg h4, if_neg h5], by rw [g_X11_ward, if_pos h1, if_neg h2, if_neg h3, if_neg h4, if_neg h5]⟩
  · show u_P L xs n d m_X11_ward 5 [(0, .ref 1), (1, .int w), (2, .int a), (3, .int b), (4, .int k)] [.null] S R _
    refine u_st rfl (fun _ => rfl) ?_
    refine u_st rfl (fun _ => rfl) ?_
    refine u_st rfl (fun _ => rfl) ?_
    show u_P L xs n d m_X11_ward 10 [(5, .null), (0, .ref 1), (1, .int w), (2, .int a), (3, .int b), (4, .int k)] [.int (Int32.ofInt 9), .int a] S R _
    refine u_cs (ac := [.int a, .int (Int32.ofInt 9)]) (rest := []) rfl (by decide) mt_X11_within (fun _ => rfl) (Nat.le_of_ble_eq_true rfl) (Nat.le_of_ble_eq_true rfl) (fun d' => c_X11_within L xs n d' a (Int32.ofInt 9) S R) ?_
    rintro _ _ _ ⟨_, rfl, rfl, rfl, rfl⟩
    show u_P L xs n d m_X11_ward 13 [(5, .null), (0, .ref 1), (1, .int w), (2, .int a), (3, .int b), (4, .int k)] [.int (f_X11_within a (Int32.ofInt 9))] S R _
    refine u_if_eq rfl (fun h6 => ?_) (fun h6 => ?_)
    · show u_P L xs n d m_X11_ward 44 [(5, .null), (0, .ref 1), (1, .int w), (2, .int a), (3, .int b), (4, .int k)] [] S R _
      refine u_st rfl (fun _ => rfl) ?_
      refine u_st rfl (fun _ => rfl) ?_
      refine u_st rfl (fun _ => rfl) ?_
      refine u_st rfl (fun _ => rfl) ?_
      refine u_st rfl (fun _ => rfl) ?_
      show u_P L xs n d m_X11_ward 58 [(6, .int (Int32.ofInt 0)), (5, .null), (0, .ref 1), (1, .int w), (2, .int a), (3, .int b), (4, .int k)] [.int (Int32.ofInt 0)] S R _
      exact u_retb rfl rfl ⟨_, rfl, rfl, by rw [f_X11_ward, if_neg h1, if_pos h6], by rw [g_X11_ward, if_neg h1]⟩
    · show u_P L xs n d m_X11_ward 16 [(5, .null), (0, .ref 1), (1, .int w), (2, .int a), (3, .int b), (4, .int k)] [] S R _
      refine u_st rfl (fun _ => rfl) ?_
      refine u_st rfl (fun _ => rfl) ?_
      show u_P L xs n d m_X11_ward 19 [(5, .null), (0, .ref 1), (1, .int w), (2, .int a), (3, .int b), (4, .int k)] [.int (Int32.ofInt 9), .int b] S R _
      refine u_cs (ac := [.int b, .int (Int32.ofInt 9)]) (rest := []) rfl (by decide) mt_X11_within (fun _ => rfl) (Nat.le_of_ble_eq_true rfl) (Nat.le_of_ble_eq_true rfl) (fun d' => c_X11_within L xs n d' b (Int32.ofInt 9) S R) ?_
      rintro _ _ _ ⟨_, rfl, rfl, rfl, rfl⟩
      show u_P L xs n d m_X11_ward 22 [(5, .null), (0, .ref 1), (1, .int w), (2, .int a), (3, .int b), (4, .int k)] [.int (f_X11_within b (Int32.ofInt 9))] S R _
      refine u_if_eq rfl (fun h7 => ?_) (fun h7 => ?_)
      · show u_P L xs n d m_X11_ward 44 [(5, .null), (0, .ref 1), (1, .int w), (2, .int a), (3, .int b), (4, .int k)] [] S R _
        refine u_st rfl (fun _ => rfl) ?_
        refine u_st rfl (fun _ => rfl) ?_
        refine u_st rfl (fun _ => rfl) ?_
        refine u_st rfl (fun _ => rfl) ?_
        refine u_st rfl (fun _ => rfl) ?_
        show u_P L xs n d m_X11_ward 58 [(6, .int (Int32.ofInt 0)), (5, .null), (0, .ref 1), (1, .int w), (2, .int a), (3, .int b), (4, .int k)] [.int (Int32.ofInt 0)] S R _
        exact u_retb rfl rfl ⟨_, rfl, rfl, by rw [f_X11_ward, if_neg h1, if_neg h6, if_pos h7], by rw [g_X11_ward, if_neg h1]⟩
      · show u_P L xs n d m_X11_ward 25 [(5, .null), (0, .ref 1), (1, .int w), (2, .int a), (3, .int b), (4, .int k)] [] S R _
        refine u_st rfl (fun _ => rfl) ?_
        refine u_st rfl (fun _ => rfl) ?_
        show u_P L xs n d m_X11_ward 28 [(5, .null), (0, .ref 1), (1, .int w), (2, .int a), (3, .int b), (4, .int k)] [.int (Int32.ofInt (-1)), .int k] S R _
        refine u_ic_eq rfl (fun h8 => ?_) (fun h8 => ?_)
        · show u_P L xs n d m_X11_ward 40 [(5, .null), (0, .ref 1), (1, .int w), (2, .int a), (3, .int b), (4, .int k)] [] S R _
          refine u_st rfl (fun _ => rfl) ?_
          refine u_st rfl (fun _ => rfl) ?_
          refine u_st rfl (fun _ => rfl) ?_
          refine u_st rfl (fun _ => rfl) ?_
          refine u_st rfl (fun _ => rfl) ?_
          refine u_st rfl (fun _ => rfl) ?_
          show u_P L xs n d m_X11_ward 58 [(6, .int (Int32.ofInt 1)), (5, .null), (0, .ref 1), (1, .int w), (2, .int a), (3, .int b), (4, .int k)] [.int (Int32.ofInt 0)] S R _
          exact u_retb rfl rfl ⟨_, rfl, rfl, by rw [f_X11_ward, if_neg h1, if_neg h6, if_neg h7, if_pos h8], by rw [g_X11_ward, if_neg h1]⟩
        · show u_P L xs n d m_X11_ward 31 [(5, .null), (0, .ref 1), (1, .int w), (2, .int a), (3, .int b), (4, .int k)] [] S R _
          refine u_st rfl (fun _ => rfl) ?_
          refine u_st rfl (fun _ => rfl) ?_
          show u_P L xs n d m_X11_ward 34 [(5, .null), (0, .ref 1), (1, .int w), (2, .int a), (3, .int b), (4, .int k)] [.int (Int32.ofInt 4), .int k] S R _
          refine u_cs (ac := [.int k, .int (Int32.ofInt 4)]) (rest := []) rfl (by decide) mt_X11_within (fun _ => rfl) (Nat.le_of_ble_eq_true rfl) (Nat.le_of_ble_eq_true rfl) (fun d' => c_X11_within L xs n d' k (Int32.ofInt 4) S R) ?_
          rintro _ _ _ ⟨_, rfl, rfl, rfl, rfl⟩
          show u_P L xs n d m_X11_ward 37 [(5, .null), (0, .ref 1), (1, .int w), (2, .int a), (3, .int b), (4, .int k)] [.int (f_X11_within k (Int32.ofInt 4))] S R _
          refine u_if_eq rfl (fun h9 => ?_) (fun h9 => ?_)
          · show u_P L xs n d m_X11_ward 44 [(5, .null), (0, .ref 1), (1, .int w), (2, .int a), (3, .int b), (4, .int k)] [] S R _
            refine u_st rfl (fun _ => rfl) ?_
            refine u_st rfl (fun _ => rfl) ?_
            refine u_st rfl (fun _ => rfl) ?_
            refine u_st rfl (fun _ => rfl) ?_
            refine u_st rfl (fun _ => rfl) ?_
            show u_P L xs n d m_X11_ward 58 [(6, .int (Int32.ofInt 0)), (5, .null), (0, .ref 1), (1, .int w), (2, .int a), (3, .int b), (4, .int k)] [.int (Int32.ofInt 0)] S R _
            exact u_retb rfl rfl ⟨_, rfl, rfl, by rw [f_X11_ward, if_neg h1, if_neg h6, if_neg h7, if_neg h8, if_pos h9], by rw [g_X11_ward, if_neg h1]⟩
          · show u_P L xs n d m_X11_ward 40 [(5, .null), (0, .ref 1), (1, .int w), (2, .int a), (3, .int b), (4, .int k)] [] S R _
            refine u_st rfl (fun _ => rfl) ?_
            refine u_st rfl (fun _ => rfl) ?_
            refine u_st rfl (fun _ => rfl) ?_
            refine u_st rfl (fun _ => rfl) ?_
            refine u_st rfl (fun _ => rfl) ?_
            refine u_st rfl (fun _ => rfl) ?_
            show u_P L xs n d m_X11_ward 58 [(6, .int (Int32.ofInt 1)), (5, .null), (0, .ref 1), (1, .int w), (2, .int a), (3, .int b), (4, .int k)] [.int (Int32.ofInt 0)] S R _
            exact u_retb rfl rfl ⟨_, rfl, rfl, by rw [f_X11_ward, if_neg h1, if_neg h6, if_neg h7, if_neg h8, if_neg h9], by rw [g_X11_ward, if_neg h1]⟩
noncomputable abbrev m_X11_keep : g_M := (g_cn 11, yX11_keep, cX11_keep, 1, (some .int), g_look2 ttX11_keep)
set_option maxRecDepth 20000 in
theorem mt_X11_keep : g_mt 144 = some m_X11_keep := rfl
noncomputable def f_X11_keep  (S : v_Sf) : Int32 := f_J6_bitCount_0f7a4 ((g_X7_copy 11 1 S) 1 0)
noncomputable def g_X11_keep  (S : v_Sf) : v_Sf := z_s (g_X7_copy 11 1 S) 0 14 (Int32.ofInt 1)
set_option maxRecDepth 4000 in
theorem c_X11_keep (L : Nat) (xs : Nat → Int32) (n d : Nat)  (S : v_Sf) (R : v_Rf) : u_P L xs n d m_X11_keep 0 (lv_args 0 [.ref 1]) [] S R (z_Q R (fun v S1 => f_X11_keep  S = v ∧ g_X11_keep  S = S1)) := by
  show u_P L xs n d m_X11_keep 0 [(0, .ref 1)] [] S R _
  refine u_st rfl (fun _ => rfl) ?_
  show u_P L xs n d m_X11_keep 1 [(0, .ref 1)] [.ref 1] S R _
  refine u_getr rfl v_tyC rfl ?_
  refine u_st rfl (fun _ => rfl) ?_
  show u_P L xs n d m_X11_keep 5 [(0, .ref 1)] [.ref 1, .ref 12] S R _
  refine u_getr rfl v_tyC rfl ?_
  show u_P L xs n d m_X11_keep 8 [(0, .ref 1)] [.ref 2, .ref 12] S R _
  refine u_cv (rest := []) rfl (by decide) mt_X7_copy rfl rfl rfl rfl (Nat.le_of_ble_eq_true rfl) (Nat.le_of_ble_eq_true rfl) (Nat.le_of_ble_eq_true rfl) (fun d' => c_X7_copy L xs n d' 11 (Or.inr (Or.inl rfl)) 1 (Or.inl rfl) S R) ?_
  rintro _ _ _ ⟨rfl, rfl, rfl⟩
  refine u_st rfl (fun _ => rfl) ?_
  refine u_st rfl (fun _ => rfl) ?_
  show u_P L xs n d m_X11_keep 13 [(0, .ref 1)] [.int (Int32.ofInt 1), .ref 1] (g_X7_copy 11 1 S) R _
  refine u_put rfl v_tyC rfl ?_
  refine u_st rfl (fun _ => rfl) ?_
  show u_P L xs n d m_X11_keep 17 [(0, .ref 1)] [.ref 1] (z_s (g_X7_copy 11 1 S) 0 14 (Int32.ofInt 1)) R _
  refine u_getr rfl v_tyC rfl ?_
  show u_P L xs n d m_X11_keep 20 [(0, .ref 1)] [.ref 2] (z_s (g_X7_copy 11 1 S) 0 14 (Int32.ofInt 1)) R _
  refine u_getE (v := (g_X7_copy 11 1 S) 1 0) rfl rfl rfl (z_sn (fun h => absurd h.1 (by decide))) ?_
  show u_P L xs n d m_X11_keep 23 [(0, .ref 1)] [.int ((g_X7_copy 11 1 S) 1 0)] (z_s (g_X7_copy 11 1 S) 0 14 (Int32.ofInt 1)) R _
  refine u_cs (ac := [.int ((g_X7_copy 11 1 S) 1 0)]) (rest := []) rfl (by decide) mt_J6_bitCount_0f7a4 (fun _ => rfl) (Nat.le_of_ble_eq_true rfl) (Nat.le_of_ble_eq_true rfl) (fun d' => c_J6_bitCount_0f7a4 L xs n d' ((g_X7_copy 11 1 S) 1 0) (z_s (g_X7_copy 11 1 S) 0 14 (Int32.ofInt 1)) R) ?_
  rintro _ _ _ ⟨_, rfl, rfl, rfl, rfl⟩
  show u_P L xs n d m_X11_keep 26 [(0, .ref 1)] [.int (f_J6_bitCount_0f7a4 ((g_X7_copy 11 1 S) 1 0))] (z_s (g_X7_copy 11 1 S) 0 14 (Int32.ofInt 1)) R _
  exact u_ret rfl rfl ⟨_, rfl, rfl, rfl, rfl⟩
noncomputable abbrev m_X11_undo : g_M := (g_cn 11, yX11_undo, cX11_undo, 3, (some .boolean), g_look2 ttX11_undo)
set_option maxRecDepth 20000 in
theorem mt_X11_undo : g_mt 145 = some m_X11_undo := rfl
noncomputable def D_X11_undo_22  (H22 : Int32 → v_Sf → Prop) (K : Int32 → v_Sf → Prop) (x1 : Int32) (S : v_Sf) : Prop := (((Int32.ofInt 6) ≤ x1 → K (Int32.ofInt 1) S) ∧ (¬ ((Int32.ofInt 6) ≤ x1) → ((0 ≤ x1.toInt ∧ x1.toInt < ((6 : Nat) : Int) → (0 ≤ x1.toInt → x1.toInt < 6 → (((S 10 x1.toInt.toNat) < (S ((33 + 2 * x1.toInt.toNat)) 1) → H22 (x1 + (Int32.ofInt 1)) S) ∧ (¬ ((S 10 x1.toInt.toNat) < (S ((33 + 2 * x1.toInt.toNat)) 1)) → (0 ≤ x1.toInt → x1.toInt < 6 → H22 (x1 + (Int32.ofInt 1)) (z_s S 10 x1.toInt.toNat (Int32.ofInt 0))))))) ∧ (¬ (0 ≤ x1.toInt ∧ x1.toInt < ((6 : Nat) : Int)) → (0 ≤ x1.toInt → x1.toInt < 6 → H22 (x1 + (Int32.ofInt 1)) (z_s S 10 x1.toInt.toNat (Int32.ofInt 0)))))))
noncomputable def D_X11_undo  (H22 : Int32 → v_Sf → Prop) (K : Int32 → v_Sf → Prop) (S : v_Sf) : Prop := (((¬ (S 0 14) = 0) → H22 (Int32.ofInt 0) (g_X7_copy 1 11 S)) ∧ (¬ (¬ (S 0 14) = 0) → K (Int32.ofInt 0) S))
set_option maxRecDepth 4000 in
theorem hd_X11_undo (L : Nat) (xs : Nat → Int32) {R : v_Rf} (hW : z_W R) (H22 : Int32 → v_Sf → Prop) (K : Int32 → v_Sf → Prop) (k22 : ∀ (x1 : Int32) (S : v_Sf), H22 x1 S → D_X11_undo_22 H22 K x1 S) : ∀ n, (∀ (d : Nat) (x1 : Int32) (S : v_Sf), H22 x1 S → u_P L xs n d m_X11_undo 22 [(0, .ref 1), (1, .int x1)] [] S R (z_Q R K)) ∧ (∀ (d : Nat) (j2 : Nat) (x1 : Int32) (S : v_Sf), H22 x1 S → u_P L xs n d m_X11_undo 22 [(0, .ref 1), (1, .int x1), (2, .ref j2)] [] S R (z_Q R K)) ∧ (∀ (d : Nat) (x1 : Int32) (S : v_Sf), H22 x1 S → u_P L xs n d m_X11_undo 22 [(0, .ref 1), (1, .int x1), (2, .null)] [] S R (z_Q R K)) := by
  intro n
  induction n using Nat.strongRecOn with
  | ind n ih =>
    refine ⟨?_, ?_, ?_⟩
    · intro d x1 S hD
      have hD := k22 x1 S hD
      unfold D_X11_undo_22 at hD
      show u_P L xs n d m_X11_undo 22 [(0, .ref 1), (1, .int x1)] [] S R _
      refine u_st1 rfl (fun _ => rfl) (fun m hm => ?_)
      refine u_st rfl (fun _ => rfl) ?_
      show u_P L xs m d m_X11_undo 25 [(0, .ref 1), (1, .int x1)] [.int (Int32.ofInt 6), .int x1] S R _
      refine u_ic_ge rfl (fun h1 => ?_) (fun h1 => ?_)
      · have hD := hD.1 h1
        show u_P L xs m d m_X11_undo 70 [(0, .ref 1), (1, .int x1)] [] S R _
        refine u_st rfl (fun _ => rfl) ?_
        show u_P L xs m d m_X11_undo 71 [(0, .ref 1), (1, .int x1)] [.int (Int32.ofInt 1)] S R _
        exact u_retb rfl rfl ⟨_, rfl, rfl, hD⟩
      · have hD := hD.2 h1
        show u_P L xs m d m_X11_undo 28 [(0, .ref 1), (1, .int x1)] [] S R _
        refine u_st rfl (fun _ => rfl) ?_
        refine u_st rfl (fun _ => rfl) ?_
        show u_P L xs m d m_X11_undo 30 [(0, .ref 1), (1, .int x1)] [.int x1, .ref 1] S R _
        refine u_cv (rest := []) rfl (by decide) mt_X11_wardAt v_tyC rfl rfl rfl (Nat.le_of_ble_eq_true rfl) (Nat.le_of_ble_eq_true rfl) (Nat.le_of_ble_eq_true rfl) (fun d' => c_X11_wardAt L xs m d' hW x1 S) ?_
        rintro _ _ _ ⟨rfl, rfl, ⟨h2, rfl⟩ | ⟨h2, rfl⟩⟩
        · have hD := hD.1 h2
          show u_P L xs m d m_X11_undo 33 [(0, .ref 1), (1, .int x1)] [.ref (((33 + 2 * x1.toInt.toNat)) + 1)] S R _
          refine u_st rfl (fun _ => rfl) ?_
          refine u_st rfl (fun _ => rfl) ?_
          refine u_st rfl (fun _ => rfl) ?_
          refine u_st rfl (fun _ => rfl) ?_
          show u_P L xs m d m_X11_undo 39 [(2, .ref (((33 + 2 * x1.toInt.toNat)) + 1)), (0, .ref 1), (1, .int x1)] [.ref 1] S R _
          refine u_getr rfl v_tyC rfl ?_
          show u_P L xs m d m_X11_undo 42 [(2, .ref (((33 + 2 * x1.toInt.toNat)) + 1)), (0, .ref 1), (1, .int x1)] [.ref 2] S R _
          refine u_getr rfl rfl rfl ?_
          refine u_st rfl (fun _ => rfl) ?_
          show u_P L xs m d m_X11_undo 46 [(2, .ref (((33 + 2 * x1.toInt.toNat)) + 1)), (0, .ref 1), (1, .int x1)] [.int x1, .ref 11] S R _
          refine u_ialdE (v := S 10 x1.toInt.toNat) rfl rfl rfl (fun b31 b32 => ?_)
          have hD := hD b31 b32
          show u_P L xs m d m_X11_undo 47 [(2, .ref (((33 + 2 * x1.toInt.toNat)) + 1)), (0, .ref 1), (1, .int x1)] [.int (S 10 x1.toInt.toNat)] S R _
          refine u_st rfl (fun _ => rfl) ?_
          show u_P L xs m d m_X11_undo 48 [(2, .ref (((33 + 2 * x1.toInt.toNat)) + 1)), (0, .ref 1), (1, .int x1)] [.ref (((33 + 2 * x1.toInt.toNat)) + 1), .int (S 10 x1.toInt.toNat)] S R _
          refine u_getE (v := S ((33 + 2 * x1.toInt.toNat)) 1) rfl (z_wd0 (z_wdi h2.1 h2.2)) rfl rfl ?_
          show u_P L xs m d m_X11_undo 51 [(2, .ref (((33 + 2 * x1.toInt.toNat)) + 1)), (0, .ref 1), (1, .int x1)] [.int (S ((33 + 2 * x1.toInt.toNat)) 1), .int (S 10 x1.toInt.toNat)] S R _
          refine u_ic_lt rfl (fun h4 => ?_) (fun h4 => ?_)
          · have hD := hD.1 h4
            show u_P L xs m d m_X11_undo 64 [(2, .ref (((33 + 2 * x1.toInt.toNat)) + 1)), (0, .ref 1), (1, .int x1)] [] S R _
            refine u_st rfl (fun _ => rfl) ?_
            refine u_st rfl (fun _ => rfl) ?_
            refine u_lc (b := [(0, .ref 1), (1, .int (x1 + (Int32.ofInt 1))), (2, .ref (((33 + 2 * x1.toInt.toNat)) + 1))]) (show ([1, 2, 0] : List Nat).Nodup by decide) (show ([0, 1, 2] : List Nat).Nodup by decide) (fun i => match i with | 0 => rfl | 1 => rfl | 2 => rfl | _ + 3 => rfl) ?_
            exact (ih m hm).2.1 d ((((33 + 2 * x1.toInt.toNat)) + 1)) (x1 + (Int32.ofInt 1)) S hD
          · have hD := hD.2 h4
            show u_P L xs m d m_X11_undo 54 [(2, .ref (((33 + 2 * x1.toInt.toNat)) + 1)), (0, .ref 1), (1, .int x1)] [] S R _
            refine u_st rfl (fun _ => rfl) ?_
            show u_P L xs m d m_X11_undo 55 [(2, .ref (((33 + 2 * x1.toInt.toNat)) + 1)), (0, .ref 1), (1, .int x1)] [.ref 1] S R _
            refine u_getr rfl v_tyC rfl ?_
            show u_P L xs m d m_X11_undo 58 [(2, .ref (((33 + 2 * x1.toInt.toNat)) + 1)), (0, .ref 1), (1, .int x1)] [.ref 2] S R _
            refine u_getr rfl rfl rfl ?_
            refine u_st rfl (fun _ => rfl) ?_
            refine u_st rfl (fun _ => rfl) ?_
            show u_P L xs m d m_X11_undo 63 [(2, .ref (((33 + 2 * x1.toInt.toNat)) + 1)), (0, .ref 1), (1, .int x1)] [.int (Int32.ofInt 0), .int x1, .ref 11] S R _
            refine u_iast rfl rfl (fun b51 b52 => ?_)
            have hD := hD b51 b52
            show u_P L xs m d m_X11_undo 64 [(2, .ref (((33 + 2 * x1.toInt.toNat)) + 1)), (0, .ref 1), (1, .int x1)] [] (z_s S 10 x1.toInt.toNat (Int32.ofInt 0)) R _
            refine u_st rfl (fun _ => rfl) ?_
            refine u_st rfl (fun _ => rfl) ?_
            refine u_lc (b := [(0, .ref 1), (1, .int (x1 + (Int32.ofInt 1))), (2, .ref (((33 + 2 * x1.toInt.toNat)) + 1))]) (show ([1, 2, 0] : List Nat).Nodup by decide) (show ([0, 1, 2] : List Nat).Nodup by decide) (fun i => match i with | 0 => rfl | 1 => rfl | 2 => rfl | _ + 3 => rfl) ?_
            exact (ih m hm).2.1 d ((((33 + 2 * x1.toInt.toNat)) + 1)) (x1 + (Int32.ofInt 1)) (z_s S 10 x1.toInt.toNat (Int32.ofInt 0)) hD
        · have hD := hD.2 h2
          show u_P L xs m d m_X11_undo 33 [(0, .ref 1), (1, .int x1)] [.null] S R _
          refine u_st rfl (fun _ => rfl) ?_
          refine u_st rfl (fun _ => rfl) ?_
          refine u_st rfl (fun _ => rfl) ?_
          refine u_st rfl (fun _ => rfl) ?_
          show u_P L xs m d m_X11_undo 55 [(2, .null), (0, .ref 1), (1, .int x1)] [.ref 1] S R _
          refine u_getr rfl v_tyC rfl ?_
          show u_P L xs m d m_X11_undo 58 [(2, .null), (0, .ref 1), (1, .int x1)] [.ref 2] S R _
          refine u_getr rfl rfl rfl ?_
          refine u_st rfl (fun _ => rfl) ?_
          refine u_st rfl (fun _ => rfl) ?_
          show u_P L xs m d m_X11_undo 63 [(2, .null), (0, .ref 1), (1, .int x1)] [.int (Int32.ofInt 0), .int x1, .ref 11] S R _
          refine u_iast rfl rfl (fun b61 b62 => ?_)
          have hD := hD b61 b62
          show u_P L xs m d m_X11_undo 64 [(2, .null), (0, .ref 1), (1, .int x1)] [] (z_s S 10 x1.toInt.toNat (Int32.ofInt 0)) R _
          refine u_st rfl (fun _ => rfl) ?_
          refine u_st rfl (fun _ => rfl) ?_
          refine u_lc (b := [(0, .ref 1), (1, .int (x1 + (Int32.ofInt 1))), (2, .null)]) (show ([1, 2, 0] : List Nat).Nodup by decide) (show ([0, 1, 2] : List Nat).Nodup by decide) (fun i => match i with | 0 => rfl | 1 => rfl | 2 => rfl | _ + 3 => rfl) ?_
          exact (ih m hm).2.2 d (x1 + (Int32.ofInt 1)) (z_s S 10 x1.toInt.toNat (Int32.ofInt 0)) hD
    · intro d j2 x1 S hD
      have hD := k22 x1 S hD
      unfold D_X11_undo_22 at hD
      show u_P L xs n d m_X11_undo 22 [(0, .ref 1), (1, .int x1), (2, .ref j2)] [] S R _
      refine u_st1 rfl (fun _ => rfl) (fun m hm => ?_)
      refine u_st rfl (fun _ => rfl) ?_
      show u_P L xs m d m_X11_undo 25 [(0, .ref 1), (1, .int x1), (2, .ref j2)] [.int (Int32.ofInt 6), .int x1] S R _
      refine u_ic_ge rfl (fun h1 => ?_) (fun h1 => ?_)
      · have hD := hD.1 h1
        show u_P L xs m d m_X11_undo 70 [(0, .ref 1), (1, .int x1), (2, .ref j2)] [] S R _
        refine u_st rfl (fun _ => rfl) ?_
        show u_P L xs m d m_X11_undo 71 [(0, .ref 1), (1, .int x1), (2, .ref j2)] [.int (Int32.ofInt 1)] S R _
        exact u_retb rfl rfl ⟨_, rfl, rfl, hD⟩
      · have hD := hD.2 h1
        show u_P L xs m d m_X11_undo 28 [(0, .ref 1), (1, .int x1), (2, .ref j2)] [] S R _
        refine u_st rfl (fun _ => rfl) ?_
        refine u_st rfl (fun _ => rfl) ?_
        show u_P L xs m d m_X11_undo 30 [(0, .ref 1), (1, .int x1), (2, .ref j2)] [.int x1, .ref 1] S R _
        refine u_cv (rest := []) rfl (by decide) mt_X11_wardAt v_tyC rfl rfl rfl (Nat.le_of_ble_eq_true rfl) (Nat.le_of_ble_eq_true rfl) (Nat.le_of_ble_eq_true rfl) (fun d' => c_X11_wardAt L xs m d' hW x1 S) ?_
        rintro _ _ _ ⟨rfl, rfl, ⟨h2, rfl⟩ | ⟨h2, rfl⟩⟩
        · have hD := hD.1 h2
          show u_P L xs m d m_X11_undo 33 [(0, .ref 1), (1, .int x1), (2, .ref j2)] [.ref (((33 + 2 * x1.toInt.toNat)) + 1)] S R _
          refine u_st rfl (fun _ => rfl) ?_
          refine u_st rfl (fun _ => rfl) ?_
          refine u_st rfl (fun _ => rfl) ?_
          refine u_st rfl (fun _ => rfl) ?_
          show u_P L xs m d m_X11_undo 39 [(2, .ref (((33 + 2 * x1.toInt.toNat)) + 1)), (0, .ref 1), (1, .int x1)] [.ref 1] S R _
          refine u_getr rfl v_tyC rfl ?_
          show u_P L xs m d m_X11_undo 42 [(2, .ref (((33 + 2 * x1.toInt.toNat)) + 1)), (0, .ref 1), (1, .int x1)] [.ref 2] S R _
          refine u_getr rfl rfl rfl ?_
          refine u_st rfl (fun _ => rfl) ?_
          show u_P L xs m d m_X11_undo 46 [(2, .ref (((33 + 2 * x1.toInt.toNat)) + 1)), (0, .ref 1), (1, .int x1)] [.int x1, .ref 11] S R _
          refine u_ialdE (v := S 10 x1.toInt.toNat) rfl rfl rfl (fun b31 b32 => ?_)
          have hD := hD b31 b32
          show u_P L xs m d m_X11_undo 47 [(2, .ref (((33 + 2 * x1.toInt.toNat)) + 1)), (0, .ref 1), (1, .int x1)] [.int (S 10 x1.toInt.toNat)] S R _
          refine u_st rfl (fun _ => rfl) ?_
          show u_P L xs m d m_X11_undo 48 [(2, .ref (((33 + 2 * x1.toInt.toNat)) + 1)), (0, .ref 1), (1, .int x1)] [.ref (((33 + 2 * x1.toInt.toNat)) + 1), .int (S 10 x1.toInt.toNat)] S R _
          refine u_getE (v := S ((33 + 2 * x1.toInt.toNat)) 1) rfl (z_wd0 (z_wdi h2.1 h2.2)) rfl rfl ?_
          show u_P L xs m d m_X11_undo 51 [(2, .ref (((33 + 2 * x1.toInt.toNat)) + 1)), (0, .ref 1), (1, .int x1)] [.int (S ((33 + 2 * x1.toInt.toNat)) 1), .int (S 10 x1.toInt.toNat)] S R _
          refine u_ic_lt rfl (fun h4 => ?_) (fun h4 => ?_)
          · have hD := hD.1 h4
            show u_P L xs m d m_X11_undo 64 [(2, .ref (((33 + 2 * x1.toInt.toNat)) + 1)), (0, .ref 1), (1, .int x1)] [] S R _
            refine u_st rfl (fun _ => rfl) ?_
            refine u_st rfl (fun _ => rfl) ?_
            refine u_lc (b := [(0, .ref 1), (1, .int (x1 + (Int32.ofInt 1))), (2, .ref (((33 + 2 * x1.toInt.toNat)) + 1))]) (show ([1, 2, 0] : List Nat).Nodup by decide) (show ([0, 1, 2] : List Nat).Nodup by decide) (fun i => match i with | 0 => rfl | 1 => rfl | 2 => rfl | _ + 3 => rfl) ?_
            exact (ih m hm).2.1 d ((((33 + 2 * x1.toInt.toNat)) + 1)) (x1 + (Int32.ofInt 1)) S hD
          · have hD := hD.2 h4
            show u_P L xs m d m_X11_undo 54 [(2, .ref (((33 + 2 * x1.toInt.toNat)) + 1)), (0, .ref 1), (1, .int x1)] [] S R _
            refine u_st rfl (fun _ => rfl) ?_
            show u_P L xs m d m_X11_undo 55 [(2, .ref (((33 + 2 * x1.toInt.toNat)) + 1)), (0, .ref 1), (1, .int x1)] [.ref 1] S R _
            refine u_getr rfl v_tyC rfl ?_
            show u_P L xs m d m_X11_undo 58 [(2, .ref (((33 + 2 * x1.toInt.toNat)) + 1)), (0, .ref 1), (1, .int x1)] [.ref 2] S R _
            refine u_getr rfl rfl rfl ?_
            refine u_st rfl (fun _ => rfl) ?_
            refine u_st rfl (fun _ => rfl) ?_
            show u_P L xs m d m_X11_undo 63 [(2, .ref (((33 + 2 * x1.toInt.toNat)) + 1)), (0, .ref 1), (1, .int x1)] [.int (Int32.ofInt 0), .int x1, .ref 11] S R _
            refine u_iast rfl rfl (fun b51 b52 => ?_)
            have hD := hD b51 b52
            show u_P L xs m d m_X11_undo 64 [(2, .ref (((33 + 2 * x1.toInt.toNat)) + 1)), (0, .ref 1), (1, .int x1)] [] (z_s S 10 x1.toInt.toNat (Int32.ofInt 0)) R _
            refine u_st rfl (fun _ => rfl) ?_
            refine u_st rfl (fun _ => rfl) ?_
            refine u_lc (b := [(0, .ref 1), (1, .int (x1 + (Int32.ofInt 1))), (2, .ref (((33 + 2 * x1.toInt.toNat)) + 1))]) (show ([1, 2, 0] : List Nat).Nodup by decide) (show ([0, 1, 2] : List Nat).Nodup by decide) (fun i => match i with | 0 => rfl | 1 => rfl | 2 => rfl | _ + 3 => rfl) ?_
            exact (ih m hm).2.1 d ((((33 + 2 * x1.toInt.toNat)) + 1)) (x1 + (Int32.ofInt 1)) (z_s S 10 x1.toInt.toNat (Int32.ofInt 0)) hD
        · have hD := hD.2 h2
          show u_P L xs m d m_X11_undo 33 [(0, .ref 1), (1, .int x1), (2, .ref j2)] [.null] S R _
          refine u_st rfl (fun _ => rfl) ?_
          refine u_st rfl (fun _ => rfl) ?_
          refine u_st rfl (fun _ => rfl) ?_
          refine u_st rfl (fun _ => rfl) ?_
          show u_P L xs m d m_X11_undo 55 [(2, .null), (0, .ref 1), (1, .int x1)] [.ref 1] S R _
          refine u_getr rfl v_tyC rfl ?_
          show u_P L xs m d m_X11_undo 58 [(2, .null), (0, .ref 1), (1, .int x1)] [.ref 2] S R _
          refine u_getr rfl rfl rfl ?_
          refine u_st rfl (fun _ => rfl) ?_
          refine u_st rfl (fun _ => rfl) ?_
          show u_P L xs m d m_X11_undo 63 [(2, .null), (0, .ref 1), (1, .int x1)] [.int (Int32.ofInt 0), .int x1, .ref 11] S R _
          refine u_iast rfl rfl (fun b61 b62 => ?_)
          have hD := hD b61 b62
          show u_P L xs m d m_X11_undo 64 [(2, .null), (0, .ref 1), (1, .int x1)] [] (z_s S 10 x1.toInt.toNat (Int32.ofInt 0)) R _
          refine u_st rfl (fun _ => rfl) ?_
          refine u_st rfl (fun _ => rfl) ?_
          refine u_lc (b := [(0, .ref 1), (1, .int (x1 + (Int32.ofInt 1))), (2, .null)]) (show ([1, 2, 0] : List Nat).Nodup by decide) (show ([0, 1, 2] : List Nat).Nodup by decide) (fun i => match i with | 0 => rfl | 1 => rfl | 2 => rfl | _ + 3 => rfl) ?_
          exact (ih m hm).2.2 d (x1 + (Int32.ofInt 1)) (z_s S 10 x1.toInt.toNat (Int32.ofInt 0)) hD
    · intro d x1 S hD
      have hD := k22 x1 S hD
      unfold D_X11_undo_22 at hD
      show u_P L xs n d m_X11_undo 22 [(0, .ref 1), (1, .int x1), (2, .null)] [] S R _
      refine u_st1 rfl (fun _ => rfl) (fun m hm => ?_)
      refine u_st rfl (fun _ => rfl) ?_
      show u_P L xs m d m_X11_undo 25 [(0, .ref 1), (1, .int x1), (2, .null)] [.int (Int32.ofInt 6), .int x1] S R _
      refine u_ic_ge rfl (fun h1 => ?_) (fun h1 => ?_)
      · have hD := hD.1 h1
        show u_P L xs m d m_X11_undo 70 [(0, .ref 1), (1, .int x1), (2, .null)] [] S R _
        refine u_st rfl (fun _ => rfl) ?_
        show u_P L xs m d m_X11_undo 71 [(0, .ref 1), (1, .int x1), (2, .null)] [.int (Int32.ofInt 1)] S R _
        exact u_retb rfl rfl ⟨_, rfl, rfl, hD⟩
      · have hD := hD.2 h1
        show u_P L xs m d m_X11_undo 28 [(0, .ref 1), (1, .int x1), (2, .null)] [] S R _
        refine u_st rfl (fun _ => rfl) ?_
        refine u_st rfl (fun _ => rfl) ?_
        show u_P L xs m d m_X11_undo 30 [(0, .ref 1), (1, .int x1), (2, .null)] [.int x1, .ref 1] S R _
        refine u_cv (rest := []) rfl (by decide) mt_X11_wardAt v_tyC rfl rfl rfl (Nat.le_of_ble_eq_true rfl) (Nat.le_of_ble_eq_true rfl) (Nat.le_of_ble_eq_true rfl) (fun d' => c_X11_wardAt L xs m d' hW x1 S) ?_
        rintro _ _ _ ⟨rfl, rfl, ⟨h2, rfl⟩ | ⟨h2, rfl⟩⟩
        · have hD := hD.1 h2
          show u_P L xs m d m_X11_undo 33 [(0, .ref 1), (1, .int x1), (2, .null)] [.ref (((33 + 2 * x1.toInt.toNat)) + 1)] S R _
          refine u_st rfl (fun _ => rfl) ?_
          refine u_st rfl (fun _ => rfl) ?_
          refine u_st rfl (fun _ => rfl) ?_
          refine u_st rfl (fun _ => rfl) ?_
          show u_P L xs m d m_X11_undo 39 [(2, .ref (((33 + 2 * x1.toInt.toNat)) + 1)), (0, .ref 1), (1, .int x1)] [.ref 1] S R _
          refine u_getr rfl v_tyC rfl ?_
          show u_P L xs m d m_X11_undo 42 [(2, .ref (((33 + 2 * x1.toInt.toNat)) + 1)), (0, .ref 1), (1, .int x1)] [.ref 2] S R _
          refine u_getr rfl rfl rfl ?_
          refine u_st rfl (fun _ => rfl) ?_
          show u_P L xs m d m_X11_undo 46 [(2, .ref (((33 + 2 * x1.toInt.toNat)) + 1)), (0, .ref 1), (1, .int x1)] [.int x1, .ref 11] S R _
          refine u_ialdE (v := S 10 x1.toInt.toNat) rfl rfl rfl (fun b31 b32 => ?_)
          have hD := hD b31 b32
          show u_P L xs m d m_X11_undo 47 [(2, .ref (((33 + 2 * x1.toInt.toNat)) + 1)), (0, .ref 1), (1, .int x1)] [.int (S 10 x1.toInt.toNat)] S R _
          refine u_st rfl (fun _ => rfl) ?_
          show u_P L xs m d m_X11_undo 48 [(2, .ref (((33 + 2 * x1.toInt.toNat)) + 1)), (0, .ref 1), (1, .int x1)] [.ref (((33 + 2 * x1.toInt.toNat)) + 1), .int (S 10 x1.toInt.toNat)] S R _
          refine u_getE (v := S ((33 + 2 * x1.toInt.toNat)) 1) rfl (z_wd0 (z_wdi h2.1 h2.2)) rfl rfl ?_
          show u_P L xs m d m_X11_undo 51 [(2, .ref (((33 + 2 * x1.toInt.toNat)) + 1)), (0, .ref 1), (1, .int x1)] [.int (S ((33 + 2 * x1.toInt.toNat)) 1), .int (S 10 x1.toInt.toNat)] S R _
          refine u_ic_lt rfl (fun h4 => ?_) (fun h4 => ?_)
          · have hD := hD.1 h4
            show u_P L xs m d m_X11_undo 64 [(2, .ref (((33 + 2 * x1.toInt.toNat)) + 1)), (0, .ref 1), (1, .int x1)] [] S R _
            refine u_st rfl (fun _ => rfl) ?_
            refine u_st rfl (fun _ => rfl) ?_
            refine u_lc (b := [(0, .ref 1), (1, .int (x1 + (Int32.ofInt 1))), (2, .ref (((33 + 2 * x1.toInt.toNat)) + 1))]) (show ([1, 2, 0] : List Nat).Nodup by decide) (show ([0, 1, 2] : List Nat).Nodup by decide) (fun i => match i with | 0 => rfl | 1 => rfl | 2 => rfl | _ + 3 => rfl) ?_
            exact (ih m hm).2.1 d ((((33 + 2 * x1.toInt.toNat)) + 1)) (x1 + (Int32.ofInt 1)) S hD
          · have hD := hD.2 h4
            show u_P L xs m d m_X11_undo 54 [(2, .ref (((33 + 2 * x1.toInt.toNat)) + 1)), (0, .ref 1), (1, .int x1)] [] S R _
            refine u_st rfl (fun _ => rfl) ?_
            show u_P L xs m d m_X11_undo 55 [(2, .ref (((33 + 2 * x1.toInt.toNat)) + 1)), (0, .ref 1), (1, .int x1)] [.ref 1] S R _
            refine u_getr rfl v_tyC rfl ?_
            show u_P L xs m d m_X11_undo 58 [(2, .ref (((33 + 2 * x1.toInt.toNat)) + 1)), (0, .ref 1), (1, .int x1)] [.ref 2] S R _
            refine u_getr rfl rfl rfl ?_
            refine u_st rfl (fun _ => rfl) ?_
            refine u_st rfl (fun _ => rfl) ?_
            show u_P L xs m d m_X11_undo 63 [(2, .ref (((33 + 2 * x1.toInt.toNat)) + 1)), (0, .ref 1), (1, .int x1)] [.int (Int32.ofInt 0), .int x1, .ref 11] S R _
            refine u_iast rfl rfl (fun b51 b52 => ?_)
            have hD := hD b51 b52
            show u_P L xs m d m_X11_undo 64 [(2, .ref (((33 + 2 * x1.toInt.toNat)) + 1)), (0, .ref 1), (1, .int x1)] [] (z_s S 10 x1.toInt.toNat (Int32.ofInt 0)) R _
            refine u_st rfl (fun _ => rfl) ?_
            refine u_st rfl (fun _ => rfl) ?_
            refine u_lc (b := [(0, .ref 1), (1, .int (x1 + (Int32.ofInt 1))), (2, .ref (((33 + 2 * x1.toInt.toNat)) + 1))]) (show ([1, 2, 0] : List Nat).Nodup by decide) (show ([0, 1, 2] : List Nat).Nodup by decide) (fun i => match i with | 0 => rfl | 1 => rfl | 2 => rfl | _ + 3 => rfl) ?_
            exact (ih m hm).2.1 d ((((33 + 2 * x1.toInt.toNat)) + 1)) (x1 + (Int32.ofInt 1)) (z_s S 10 x1.toInt.toNat (Int32.ofInt 0)) hD
        · have hD := hD.2 h2
          show u_P L xs m d m_X11_undo 33 [(0, .ref 1), (1, .int x1), (2, .null)] [.null] S R _
          refine u_st rfl (fun _ => rfl) ?_
          refine u_st rfl (fun _ => rfl) ?_
          refine u_st rfl (fun _ => rfl) ?_
          refine u_st rfl (fun _ => rfl) ?_
          show u_P L xs m d m_X11_undo 55 [(2, .null), (0, .ref 1), (1, .int x1)] [.ref 1] S R _
          refine u_getr rfl v_tyC rfl ?_
          show u_P L xs m d m_X11_undo 58 [(2, .null), (0, .ref 1), (1, .int x1)] [.ref 2] S R _
          refine u_getr rfl rfl rfl ?_
          refine u_st rfl (fun _ => rfl) ?_
          refine u_st rfl (fun _ => rfl) ?_
          show u_P L xs m d m_X11_undo 63 [(2, .null), (0, .ref 1), (1, .int x1)] [.int (Int32.ofInt 0), .int x1, .ref 11] S R _
          refine u_iast rfl rfl (fun b61 b62 => ?_)
          have hD := hD b61 b62
          show u_P L xs m d m_X11_undo 64 [(2, .null), (0, .ref 1), (1, .int x1)] [] (z_s S 10 x1.toInt.toNat (Int32.ofInt 0)) R _
          refine u_st rfl (fun _ => rfl) ?_
          refine u_st rfl (fun _ => rfl) ?_
          refine u_lc (b := [(0, .ref 1), (1, .int (x1 + (Int32.ofInt 1))), (2, .null)]) (show ([1, 2, 0] : List Nat).Nodup by decide) (show ([0, 1, 2] : List Nat).Nodup by decide) (fun i => match i with | 0 => rfl | 1 => rfl | 2 => rfl | _ + 3 => rfl) ?_
          exact (ih m hm).2.2 d (x1 + (Int32.ofInt 1)) (z_s S 10 x1.toInt.toNat (Int32.ofInt 0)) hD
set_option maxRecDepth 4000 in
theorem w_X11_undo (L : Nat) (xs : Nat → Int32) {R : v_Rf} (hW : z_W R) (H22 : Int32 → v_Sf → Prop) (K : Int32 → v_Sf → Prop) (k22 : ∀ (x1 : Int32) (S : v_Sf), H22 x1 S → D_X11_undo_22 H22 K x1 S) (n d : Nat) (S : v_Sf) (hD : D_X11_undo H22 K S) : u_P L xs n d m_X11_undo 0 (lv_args 0 [.ref 1]) [] S R (z_Q R K) := by
  unfold D_X11_undo at hD
  show u_P L xs n d m_X11_undo 0 [(0, .ref 1)] [] S R _
  refine u_st rfl (fun _ => rfl) ?_
  show u_P L xs n d m_X11_undo 1 [(0, .ref 1)] [.ref 1] S R _
  refine u_getE (v := S 0 14) rfl v_tyC rfl rfl ?_
  show u_P L xs n d m_X11_undo 4 [(0, .ref 1)] [.int (S 0 14)] S R _
  refine u_if_ne rfl (fun h1 => ?_) (fun h1 => ?_)
  · have hD := hD.1 h1
    show u_P L xs n d m_X11_undo 9 [(0, .ref 1)] [] S R _
    refine u_st rfl (fun _ => rfl) ?_
    show u_P L xs n d m_X11_undo 10 [(0, .ref 1)] [.ref 1] S R _
    refine u_getr rfl v_tyC rfl ?_
    refine u_st rfl (fun _ => rfl) ?_
    show u_P L xs n d m_X11_undo 14 [(0, .ref 1)] [.ref 1, .ref 2] S R _
    refine u_getr rfl v_tyC rfl ?_
    show u_P L xs n d m_X11_undo 17 [(0, .ref 1)] [.ref 12, .ref 2] S R _
    refine u_cv (rest := []) rfl (by decide) mt_X7_copy rfl rfl rfl rfl (Nat.le_of_ble_eq_true rfl) (Nat.le_of_ble_eq_true rfl) (Nat.le_of_ble_eq_true rfl) (fun d' => c_X7_copy L xs n d' 1 (Or.inl rfl) 11 (Or.inr (Or.inl rfl)) S R) ?_
    rintro _ _ _ ⟨rfl, rfl, rfl⟩
    refine u_st rfl (fun _ => rfl) ?_
    refine u_st rfl (fun _ => rfl) ?_
    refine u_lc (b := [(0, .ref 1), (1, .int (Int32.ofInt 0))]) (show ([1, 0] : List Nat).Nodup by decide) (show ([0, 1] : List Nat).Nodup by decide) (fun i => match i with | 0 => rfl | 1 => rfl | _ + 2 => rfl) ?_
    exact (hd_X11_undo L xs hW H22 K k22 n).1 d (Int32.ofInt 0) (g_X7_copy 1 11 S) hD
  · have hD := hD.2 h1
    show u_P L xs n d m_X11_undo 7 [(0, .ref 1)] [] S R _
    refine u_st rfl (fun _ => rfl) ?_
    show u_P L xs n d m_X11_undo 8 [(0, .ref 1)] [.int (Int32.ofInt 0)] S R _
    exact u_retb rfl rfl ⟨_, rfl, rfl, hD⟩
noncomputable def r_X11_undo_22  : Nat → Nat → v_Sf → Int32 × v_Sf
  | 0, k22, S => (Int32.ofInt 1, S)
  | r + 1, k22, S => (if 0 ≤ (z_i k22).toInt ∧ (z_i k22).toInt < ((6 : Nat) : Int) then (if (S 10 (z_i k22).toInt.toNat) < (S ((33 + 2 * (z_i k22).toInt.toNat)) 1) then r_X11_undo_22 r (k22 + 1) S else r_X11_undo_22 r (k22 + 1) (z_s S 10 (z_i k22).toInt.toNat (Int32.ofInt 0))) else r_X11_undo_22 r (k22 + 1) (z_s S 10 (z_i k22).toInt.toNat (Int32.ofInt 0)))
noncomputable def F_X11_undo  (S : v_Sf) : Int32 × v_Sf := (if ¬ (S 0 14) = 0 then r_X11_undo_22 (6 - 0) 0 (g_X7_copy 1 11 S) else (Int32.ofInt 0, S))
noncomputable def f_X11_undo  (S : v_Sf) : Int32 := (F_X11_undo  S).1
noncomputable def g_X11_undo  (S : v_Sf) : v_Sf := (F_X11_undo  S).2
theorem c_X11_undo (L : Nat) (xs : Nat → Int32) (n d : Nat) {R : v_Rf} (hW : z_W R) (S : v_Sf) : u_P L xs n d m_X11_undo 0 (lv_args 0 [.ref 1]) [] S R (z_Q R (fun v S1 => f_X11_undo  S = v ∧ g_X11_undo  S = S1)) := by
  refine w_X11_undo L xs hW (fun y1 T => ∃ (k22 : Nat), k22 ≤ 6 ∧ z_i k22 = y1 ∧ r_X11_undo_22 (6 - k22) k22 T = F_X11_undo  S) (fun v S1 => f_X11_undo  S = v ∧ g_X11_undo  S = S1) ?_ n d S ?_
  · rintro _ S1 ⟨k22, hkk, rfl, e⟩
    unfold D_X11_undo_22
    rcases Nat.lt_or_ge k22 (6) with hk | hk
    · rw [show 6 - k22 = (6 - (k22 + 1)) + 1 by omega, r_X11_undo_22] at e
      refine ⟨fun q1 => ?_, fun q1 => ?_⟩
      · exact absurd hk (Nat.not_lt.mpr (z_leB2 (B := 6) q1 (by decide) (by omega)))
      · refine ⟨fun q2 => ?_, fun q2 => ?_⟩
        · intro _ _
          refine ⟨fun q3 => ?_, fun q3 => ?_⟩
          · rw [if_pos q2, if_pos q3] at e
            exact ⟨(k22 + 1), by omega, (z_i1 k22).symm, e⟩
          · intro _ _
            rw [if_pos q2, if_neg q3] at e
            exact ⟨(k22 + 1), by omega, (z_i1 k22).symm, e⟩
        · intro _ _
          rw [if_neg q2] at e
          exact ⟨(k22 + 1), by omega, (z_i1 k22).symm, e⟩
    · rw [show 6 - k22 = 0 by omega, r_X11_undo_22] at e
      refine ⟨fun q4 => ?_, fun q4 => ?_⟩
      · have e1 := congrArg Prod.fst e.symm
        have e2 := congrArg Prod.snd e.symm
        exact ⟨e1, e2⟩
      · exact absurd hk (Nat.not_le.mpr (z_ltB2 (B := 6) q4 (by decide) (by omega)))
  · unfold D_X11_undo
    refine ⟨fun q5 => ?_, fun q5 => ?_⟩
    · have e : r_X11_undo_22 (6 - 0) 0 (g_X7_copy 1 11 S) = F_X11_undo  S := by rw [F_X11_undo, if_pos q5]
      exact ⟨0, by omega, rfl, e⟩
    · have e : (Int32.ofInt 0, S) = F_X11_undo  S := by rw [F_X11_undo, if_neg q5]
      have e1 := congrArg Prod.fst e.symm
      have e2 := congrArg Prod.snd e.symm
      exact ⟨e1, e2⟩
noncomputable abbrev m_X11_check : g_M := (g_cn 11, yX11_check, cX11_check, 5, (some .int), g_look2 ttX11_check)
set_option maxRecDepth 20000 in
theorem mt_X11_check : g_mt 146 = some m_X11_check := rfl
noncomputable def D_X11_check_27  (H27 : Int32 → Int32 → Int32 → v_Sf → Prop) (K : Int32 → v_Sf → Prop) (x1 : Int32) (x2 : Int32) (x3 : Int32) (S : v_Sf) : Prop := ((x1 ≤ x3 → K x2 (g_X8_empty S)) ∧ (¬ (x1 ≤ x3) → (((¬ x2 = (Int32.ofInt (-1))) → K x2 (g_X8_empty S)) ∧ (¬ (¬ x2 = (Int32.ofInt (-1))) → (((f_X7_hasGust 1 x3 S) = 0 → (((f_X8_at x3 S) = (Int32.ofInt 0) → H27 x1 x2 (x3 + (Int32.ofInt 1)) S) ∧ (¬ ((f_X8_at x3 S) = (Int32.ofInt 0)) → H27 x1 x3 (x3 + (Int32.ofInt 1)) S))) ∧ (¬ ((f_X7_hasGust 1 x3 S) = 0) → (0 ≤ x3.toInt → x3.toInt < 12 → (((f_X8_at x3 S) = (S 2 x3.toInt.toNat) → H27 x1 x2 (x3 + (Int32.ofInt 1)) S) ∧ (¬ ((f_X8_at x3 S) = (S 2 x3.toInt.toNat)) → H27 x1 x3 (x3 + (Int32.ofInt 1)) S)))))))))
noncomputable def D_X11_check (a : Int32) (H27 : Int32 → Int32 → Int32 → v_Sf → Prop) (K : Int32 → v_Sf → Prop) (S : v_Sf) : Prop := (((f_X11_within a (Int32.ofInt 12)) = 0 → K (Int32.ofInt (-2)) S) ∧ (¬ ((f_X11_within a (Int32.ofInt 12)) = 0) → ((a ≤ (S 45 1) → H27 a (Int32.ofInt (-1)) (Int32.ofInt 0) S) ∧ (¬ (a ≤ (S 45 1)) → K (Int32.ofInt (-2)) S))))
set_option maxRecDepth 4000 in
theorem hd_X11_check (L : Nat) (xs : Nat → Int32) {R : v_Rf} (a : Int32) (H27 : Int32 → Int32 → Int32 → v_Sf → Prop) (K : Int32 → v_Sf → Prop) (k27 : ∀ (x1 : Int32) (x2 : Int32) (x3 : Int32) (S : v_Sf), H27 x1 x2 x3 S → D_X11_check_27 H27 K x1 x2 x3 S) : ∀ n, (∀ (d : Nat) (x1 : Int32) (x2 : Int32) (x3 : Int32) (S : v_Sf), H27 x1 x2 x3 S → u_P L xs n d m_X11_check 27 [(0, .ref 1), (1, .int x1), (2, .int x2), (3, .int x3)] [] S R (z_Q R K)) ∧ (∀ (d : Nat) (j4 : Int32) (x1 : Int32) (x2 : Int32) (x3 : Int32) (S : v_Sf), H27 x1 x2 x3 S → u_P L xs n d m_X11_check 27 [(0, .ref 1), (1, .int x1), (2, .int x2), (3, .int x3), (4, .int j4)] [] S R (z_Q R K)) := by
  intro n
  induction n using Nat.strongRecOn with
  | ind n ih =>
    refine ⟨?_, ?_⟩
    · intro d x1 x2 x3 S hD
      have hD := k27 x1 x2 x3 S hD
      unfold D_X11_check_27 at hD
      show u_P L xs n d m_X11_check 27 [(0, .ref 1), (1, .int x1), (2, .int x2), (3, .int x3)] [] S R _
      refine u_st1 rfl (fun _ => rfl) (fun m hm => ?_)
      refine u_st rfl (fun _ => rfl) ?_
      show u_P L xs m d m_X11_check 29 [(0, .ref 1), (1, .int x1), (2, .int x2), (3, .int x3)] [.int x1, .int x3] S R _
      refine u_ic_ge rfl (fun h1 => ?_) (fun h1 => ?_)
      · have hD := hD.1 h1
        show u_P L xs m d m_X11_check 84 [(0, .ref 1), (1, .int x1), (2, .int x2), (3, .int x3)] [] S R _
        refine u_st rfl (fun _ => rfl) ?_
        show u_P L xs m d m_X11_check 85 [(0, .ref 1), (1, .int x1), (2, .int x2), (3, .int x3)] [.ref 1] S R _
        refine u_getr rfl v_tyC rfl ?_
        show u_P L xs m d m_X11_check 88 [(0, .ref 1), (1, .int x1), (2, .int x2), (3, .int x3)] [.ref 46] S R _
        refine u_cv (rest := []) rfl (by decide) mt_X8_empty rfl rfl rfl rfl (Nat.le_of_ble_eq_true rfl) (Nat.le_of_ble_eq_true rfl) (Nat.le_of_ble_eq_true rfl) (fun d' => c_X8_empty L xs m d' S R) ?_
        rintro _ _ _ ⟨rfl, rfl, rfl⟩
        refine u_st rfl (fun _ => rfl) ?_
        show u_P L xs m d m_X11_check 92 [(0, .ref 1), (1, .int x1), (2, .int x2), (3, .int x3)] [.int x2] (g_X8_empty S) R _
        exact u_ret rfl rfl ⟨_, rfl, rfl, hD⟩
      · have hD := hD.2 h1
        show u_P L xs m d m_X11_check 32 [(0, .ref 1), (1, .int x1), (2, .int x2), (3, .int x3)] [] S R _
        refine u_st rfl (fun _ => rfl) ?_
        refine u_st rfl (fun _ => rfl) ?_
        show u_P L xs m d m_X11_check 34 [(0, .ref 1), (1, .int x1), (2, .int x2), (3, .int x3)] [.int (Int32.ofInt (-1)), .int x2] S R _
        refine u_ic_ne rfl (fun h2 => ?_) (fun h2 => ?_)
        · have hD := hD.1 h2
          show u_P L xs m d m_X11_check 84 [(0, .ref 1), (1, .int x1), (2, .int x2), (3, .int x3)] [] S R _
          refine u_st rfl (fun _ => rfl) ?_
          show u_P L xs m d m_X11_check 85 [(0, .ref 1), (1, .int x1), (2, .int x2), (3, .int x3)] [.ref 1] S R _
          refine u_getr rfl v_tyC rfl ?_
          show u_P L xs m d m_X11_check 88 [(0, .ref 1), (1, .int x1), (2, .int x2), (3, .int x3)] [.ref 46] S R _
          refine u_cv (rest := []) rfl (by decide) mt_X8_empty rfl rfl rfl rfl (Nat.le_of_ble_eq_true rfl) (Nat.le_of_ble_eq_true rfl) (Nat.le_of_ble_eq_true rfl) (fun d' => c_X8_empty L xs m d' S R) ?_
          rintro _ _ _ ⟨rfl, rfl, rfl⟩
          refine u_st rfl (fun _ => rfl) ?_
          show u_P L xs m d m_X11_check 92 [(0, .ref 1), (1, .int x1), (2, .int x2), (3, .int x3)] [.int x2] (g_X8_empty S) R _
          exact u_ret rfl rfl ⟨_, rfl, rfl, hD⟩
        · have hD := hD.2 h2
          show u_P L xs m d m_X11_check 37 [(0, .ref 1), (1, .int x1), (2, .int x2), (3, .int x3)] [] S R _
          refine u_st rfl (fun _ => rfl) ?_
          show u_P L xs m d m_X11_check 38 [(0, .ref 1), (1, .int x1), (2, .int x2), (3, .int x3)] [.ref 1] S R _
          refine u_getr rfl v_tyC rfl ?_
          refine u_st rfl (fun _ => rfl) ?_
          show u_P L xs m d m_X11_check 42 [(0, .ref 1), (1, .int x1), (2, .int x2), (3, .int x3)] [.int x3, .ref 2] S R _
          refine u_cv (rest := []) rfl (by decide) mt_X7_hasGust rfl rfl rfl rfl (Nat.le_of_ble_eq_true rfl) (Nat.le_of_ble_eq_true rfl) (Nat.le_of_ble_eq_true rfl) (fun d' => c_X7_hasGust L xs m d' 1 (Or.inl rfl) x3 S R) ?_
          rintro _ _ _ ⟨_, rfl, rfl, rfl, rfl⟩
          show u_P L xs m d m_X11_check 45 [(0, .ref 1), (1, .int x1), (2, .int x2), (3, .int x3)] [.int (f_X7_hasGust 1 x3 S)] S R _
          refine u_if_eq rfl (fun h3 => ?_) (fun h3 => ?_)
          · have hD := hD.1 h3
            show u_P L xs m d m_X11_check 60 [(0, .ref 1), (1, .int x1), (2, .int x2), (3, .int x3)] [] S R _
            refine u_st rfl (fun _ => rfl) ?_
            refine u_st rfl (fun _ => rfl) ?_
            refine u_st rfl (fun _ => rfl) ?_
            show u_P L xs m d m_X11_check 64 [(4, .int (Int32.ofInt 0)), (0, .ref 1), (1, .int x1), (2, .int x2), (3, .int x3)] [.ref 1] S R _
            refine u_getr rfl v_tyC rfl ?_
            refine u_st rfl (fun _ => rfl) ?_
            show u_P L xs m d m_X11_check 68 [(4, .int (Int32.ofInt 0)), (0, .ref 1), (1, .int x1), (2, .int x2), (3, .int x3)] [.int x3, .ref 46] S R _
            refine u_cv (rest := []) rfl (by decide) mt_X8_at rfl rfl rfl rfl (Nat.le_of_ble_eq_true rfl) (Nat.le_of_ble_eq_true rfl) (Nat.le_of_ble_eq_true rfl) (fun d' => c_X8_at L xs m d' x3 S R) ?_
            rintro _ _ _ ⟨_, rfl, rfl, rfl, rfl⟩
            refine u_st rfl (fun _ => rfl) ?_
            show u_P L xs m d m_X11_check 73 [(4, .int (Int32.ofInt 0)), (0, .ref 1), (1, .int x1), (2, .int x2), (3, .int x3)] [.int (Int32.ofInt 0), .int (f_X8_at x3 S)] S R _
            refine u_ic_eq rfl (fun h4 => ?_) (fun h4 => ?_)
            · have hD := hD.1 h4
              show u_P L xs m d m_X11_check 78 [(4, .int (Int32.ofInt 0)), (0, .ref 1), (1, .int x1), (2, .int x2), (3, .int x3)] [] S R _
              refine u_st rfl (fun _ => rfl) ?_
              refine u_st rfl (fun _ => rfl) ?_
              refine u_lc (b := [(0, .ref 1), (1, .int x1), (2, .int x2), (3, .int (x3 + (Int32.ofInt 1))), (4, .int (Int32.ofInt 0))]) (show ([3, 4, 0, 1, 2] : List Nat).Nodup by decide) (show ([0, 1, 2, 3, 4] : List Nat).Nodup by decide) (fun i => match i with | 0 => rfl | 1 => rfl | 2 => rfl | 3 => rfl | 4 => rfl | _ + 5 => rfl) ?_
              exact (ih m hm).2 d (Int32.ofInt 0) x1 x2 (x3 + (Int32.ofInt 1)) S hD
            · have hD := hD.2 h4
              show u_P L xs m d m_X11_check 76 [(4, .int (Int32.ofInt 0)), (0, .ref 1), (1, .int x1), (2, .int x2), (3, .int x3)] [] S R _
              refine u_st rfl (fun _ => rfl) ?_
              refine u_st rfl (fun _ => rfl) ?_
              refine u_st rfl (fun _ => rfl) ?_
              refine u_st rfl (fun _ => rfl) ?_
              refine u_lc (b := [(0, .ref 1), (1, .int x1), (2, .int x3), (3, .int (x3 + (Int32.ofInt 1))), (4, .int (Int32.ofInt 0))]) (show ([3, 2, 4, 0, 1] : List Nat).Nodup by decide) (show ([0, 1, 2, 3, 4] : List Nat).Nodup by decide) (fun i => match i with | 0 => rfl | 1 => rfl | 2 => rfl | 3 => rfl | 4 => rfl | _ + 5 => rfl) ?_
              exact (ih m hm).2 d (Int32.ofInt 0) x1 x3 (x3 + (Int32.ofInt 1)) S hD
          · have hD := hD.2 h3
            show u_P L xs m d m_X11_check 48 [(0, .ref 1), (1, .int x1), (2, .int x2), (3, .int x3)] [] S R _
            refine u_st rfl (fun _ => rfl) ?_
            show u_P L xs m d m_X11_check 49 [(0, .ref 1), (1, .int x1), (2, .int x2), (3, .int x3)] [.ref 1] S R _
            refine u_getr rfl v_tyC rfl ?_
            show u_P L xs m d m_X11_check 52 [(0, .ref 1), (1, .int x1), (2, .int x2), (3, .int x3)] [.ref 2] S R _
            refine u_getr rfl rfl rfl ?_
            refine u_st rfl (fun _ => rfl) ?_
            show u_P L xs m d m_X11_check 56 [(0, .ref 1), (1, .int x1), (2, .int x2), (3, .int x3)] [.int x3, .ref 3] S R _
            refine u_ialdE (v := S 2 x3.toInt.toNat) rfl rfl rfl (fun b51 b52 => ?_)
            have hD := hD b51 b52
            show u_P L xs m d m_X11_check 57 [(0, .ref 1), (1, .int x1), (2, .int x2), (3, .int x3)] [.int (S 2 x3.toInt.toNat)] S R _
            refine u_st rfl (fun _ => rfl) ?_
            refine u_st rfl (fun _ => rfl) ?_
            refine u_st rfl (fun _ => rfl) ?_
            show u_P L xs m d m_X11_check 64 [(4, .int (S 2 x3.toInt.toNat)), (0, .ref 1), (1, .int x1), (2, .int x2), (3, .int x3)] [.ref 1] S R _
            refine u_getr rfl v_tyC rfl ?_
            refine u_st rfl (fun _ => rfl) ?_
            show u_P L xs m d m_X11_check 68 [(4, .int (S 2 x3.toInt.toNat)), (0, .ref 1), (1, .int x1), (2, .int x2), (3, .int x3)] [.int x3, .ref 46] S R _
            refine u_cv (rest := []) rfl (by decide) mt_X8_at rfl rfl rfl rfl (Nat.le_of_ble_eq_true rfl) (Nat.le_of_ble_eq_true rfl) (Nat.le_of_ble_eq_true rfl) (fun d' => c_X8_at L xs m d' x3 S R) ?_
            rintro _ _ _ ⟨_, rfl, rfl, rfl, rfl⟩
            refine u_st rfl (fun _ => rfl) ?_
            show u_P L xs m d m_X11_check 73 [(4, .int (S 2 x3.toInt.toNat)), (0, .ref 1), (1, .int x1), (2, .int x2), (3, .int x3)] [.int (S 2 x3.toInt.toNat), .int (f_X8_at x3 S)] S R _
            refine u_ic_eq rfl (fun h6 => ?_) (fun h6 => ?_)
            · have hD := hD.1 h6
              show u_P L xs m d m_X11_check 78 [(4, .int (S 2 x3.toInt.toNat)), (0, .ref 1), (1, .int x1), (2, .int x2), (3, .int x3)] [] S R _
              refine u_st rfl (fun _ => rfl) ?_
              refine u_st rfl (fun _ => rfl) ?_
              refine u_lc (b := [(0, .ref 1), (1, .int x1), (2, .int x2), (3, .int (x3 + (Int32.ofInt 1))), (4, .int (S 2 x3.toInt.toNat))]) (show ([3, 4, 0, 1, 2] : List Nat).Nodup by decide) (show ([0, 1, 2, 3, 4] : List Nat).Nodup by decide) (fun i => match i with | 0 => rfl | 1 => rfl | 2 => rfl | 3 => rfl | 4 => rfl | _ + 5 => rfl) ?_
              exact (ih m hm).2 d (S 2 x3.toInt.toNat) x1 x2 (x3 + (Int32.ofInt 1)) S hD
            · have hD := hD.2 h6
              show u_P L xs m d m_X11_check 76 [(4, .int (S 2 x3.toInt.toNat)), (0, .ref 1), (1, .int x1), (2, .int x2), (3, .int x3)] [] S R _
              refine u_st rfl (fun _ => rfl) ?_
              refine u_st rfl (fun _ => rfl) ?_
              refine u_st rfl (fun _ => rfl) ?_
              refine u_st rfl (fun _ => rfl) ?_
              refine u_lc (b := [(0, .ref 1), (1, .int x1), (2, .int x3), (3, .int (x3 + (Int32.ofInt 1))), (4, .int (S 2 x3.toInt.toNat))]) (show ([3, 2, 4, 0, 1] : List Nat).Nodup by decide) (show ([0, 1, 2, 3, 4] : List Nat).Nodup by decide) (fun i => match i with | 0 => rfl | 1 => rfl | 2 => rfl | 3 => rfl | 4 => rfl | _ + 5 => rfl) ?_
              exact (ih m hm).2 d (S 2 x3.toInt.toNat) x1 x3 (x3 + (Int32.ofInt 1)) S hD
    · intro d j4 x1 x2 x3 S hD
      have hD := k27 x1 x2 x3 S hD
      unfold D_X11_check_27 at hD
      show u_P L xs n d m_X11_check 27 [(0, .ref 1), (1, .int x1), (2, .int x2), (3, .int x3), (4, .int j4)] [] S R _
      refine u_st1 rfl (fun _ => rfl) (fun m hm => ?_)
      refine u_st rfl (fun _ => rfl) ?_
      show u_P L xs m d m_X11_check 29 [(0, .ref 1), (1, .int x1), (2, .int x2), (3, .int x3), (4, .int j4)] [.int x1, .int x3] S R _
      refine u_ic_ge rfl (fun h1 => ?_) (fun h1 => ?_)
      · have hD := hD.1 h1
        show u_P L xs m d m_X11_check 84 [(0, .ref 1), (1, .int x1), (2, .int x2), (3, .int x3), (4, .int j4)] [] S R _
        refine u_st rfl (fun _ => rfl) ?_
        show u_P L xs m d m_X11_check 85 [(0, .ref 1), (1, .int x1), (2, .int x2), (3, .int x3), (4, .int j4)] [.ref 1] S R _
        refine u_getr rfl v_tyC rfl ?_
        show u_P L xs m d m_X11_check 88 [(0, .ref 1), (1, .int x1), (2, .int x2), (3, .int x3), (4, .int j4)] [.ref 46] S R _
        refine u_cv (rest := []) rfl (by decide) mt_X8_empty rfl rfl rfl rfl (Nat.le_of_ble_eq_true rfl) (Nat.le_of_ble_eq_true rfl) (Nat.le_of_ble_eq_true rfl) (fun d' => c_X8_empty L xs m d' S R) ?_
        rintro _ _ _ ⟨rfl, rfl, rfl⟩
        refine u_st rfl (fun _ => rfl) ?_
        show u_P L xs m d m_X11_check 92 [(0, .ref 1), (1, .int x1), (2, .int x2), (3, .int x3), (4, .int j4)] [.int x2] (g_X8_empty S) R _
        exact u_ret rfl rfl ⟨_, rfl, rfl, hD⟩
      · have hD := hD.2 h1
        show u_P L xs m d m_X11_check 32 [(0, .ref 1), (1, .int x1), (2, .int x2), (3, .int x3), (4, .int j4)] [] S R _
        refine u_st rfl (fun _ => rfl) ?_
        refine u_st rfl (fun _ => rfl) ?_
        show u_P L xs m d m_X11_check 34 [(0, .ref 1), (1, .int x1), (2, .int x2), (3, .int x3), (4, .int j4)] [.int (Int32.ofInt (-1)), .int x2] S R _
        refine u_ic_ne rfl (fun h2 => ?_) (fun h2 => ?_)
        · have hD := hD.1 h2
          show u_P L xs m d m_X11_check 84 [(0, .ref 1), (1, .int x1), (2, .int x2), (3, .int x3), (4, .int j4)] [] S R _
          refine u_st rfl (fun _ => rfl) ?_
          show u_P L xs m d m_X11_check 85 [(0, .ref 1), (1, .int x1), (2, .int x2), (3, .int x3), (4, .int j4)] [.ref 1] S R _
          refine u_getr rfl v_tyC rfl ?_
          show u_P L xs m d m_X11_check 88 [(0, .ref 1), (1, .int x1), (2, .int x2), (3, .int x3), (4, .int j4)] [.ref 46] S R _
          refine u_cv (rest := []) rfl (by decide) mt_X8_empty rfl rfl rfl rfl (Nat.le_of_ble_eq_true rfl) (Nat.le_of_ble_eq_true rfl) (Nat.le_of_ble_eq_true rfl) (fun d' => c_X8_empty L xs m d' S R) ?_
          rintro _ _ _ ⟨rfl, rfl, rfl⟩
          refine u_st rfl (fun _ => rfl) ?_
          show u_P L xs m d m_X11_check 92 [(0, .ref 1), (1, .int x1), (2, .int x2), (3, .int x3), (4, .int j4)] [.int x2] (g_X8_empty S) R _
          exact u_ret rfl rfl ⟨_, rfl, rfl, hD⟩
        · have hD := hD.2 h2
          show u_P L xs m d m_X11_check 37 [(0, .ref 1), (1, .int x1), (2, .int x2), (3, .int x3), (4, .int j4)] [] S R _
          refine u_st rfl (fun _ => rfl) ?_
          show u_P L xs m d m_X11_check 38 [(0, .ref 1), (1, .int x1), (2, .int x2), (3, .int x3), (4, .int j4)] [.ref 1] S R _
          refine u_getr rfl v_tyC rfl ?_
          refine u_st rfl (fun _ => rfl) ?_
          show u_P L xs m d m_X11_check 42 [(0, .ref 1), (1, .int x1), (2, .int x2), (3, .int x3), (4, .int j4)] [.int x3, .ref 2] S R _
          refine u_cv (rest := []) rfl (by decide) mt_X7_hasGust rfl rfl rfl rfl (Nat.le_of_ble_eq_true rfl) (Nat.le_of_ble_eq_true rfl) (Nat.le_of_ble_eq_true rfl) (fun d' => c_X7_hasGust L xs m d' 1 (Or.inl rfl) x3 S R) ?_
          rintro _ _ _ ⟨_, rfl, rfl, rfl, rfl⟩
          show u_P L xs m d m_X11_check 45 [(0, .ref 1), (1, .int x1), (2, .int x2), (3, .int x3), (4, .int j4)] [.int (f_X7_hasGust 1 x3 S)] S R _
          refine u_if_eq rfl (fun h3 => ?_) (fun h3 => ?_)
          · have hD := hD.1 h3
            show u_P L xs m d m_X11_check 60 [(0, .ref 1), (1, .int x1), (2, .int x2), (3, .int x3), (4, .int j4)] [] S R _
            refine u_st rfl (fun _ => rfl) ?_
            refine u_st rfl (fun _ => rfl) ?_
            refine u_st rfl (fun _ => rfl) ?_
            show u_P L xs m d m_X11_check 64 [(4, .int (Int32.ofInt 0)), (0, .ref 1), (1, .int x1), (2, .int x2), (3, .int x3)] [.ref 1] S R _
            refine u_getr rfl v_tyC rfl ?_
            refine u_st rfl (fun _ => rfl) ?_
            show u_P L xs m d m_X11_check 68 [(4, .int (Int32.ofInt 0)), (0, .ref 1), (1, .int x1), (2, .int x2), (3, .int x3)] [.int x3, .ref 46] S R _
            refine u_cv (rest := []) rfl (by decide) mt_X8_at rfl rfl rfl rfl (Nat.le_of_ble_eq_true rfl) (Nat.le_of_ble_eq_true rfl) (Nat.le_of_ble_eq_true rfl) (fun d' => c_X8_at L xs m d' x3 S R) ?_
            rintro _ _ _ ⟨_, rfl, rfl, rfl, rfl⟩
            refine u_st rfl (fun _ => rfl) ?_
            show u_P L xs m d m_X11_check 73 [(4, .int (Int32.ofInt 0)), (0, .ref 1), (1, .int x1), (2, .int x2), (3, .int x3)] [.int (Int32.ofInt 0), .int (f_X8_at x3 S)] S R _
            refine u_ic_eq rfl (fun h4 => ?_) (fun h4 => ?_)
            · have hD := hD.1 h4
              show u_P L xs m d m_X11_check 78 [(4, .int (Int32.ofInt 0)), (0, .ref 1), (1, .int x1), (2, .int x2), (3, .int x3)] [] S R _
              refine u_st rfl (fun _ => rfl) ?_
              refine u_st rfl (fun _ => rfl) ?_
              refine u_lc (b := [(0, .ref 1), (1, .int x1), (2, .int x2), (3, .int (x3 + (Int32.ofInt 1))), (4, .int (Int32.ofInt 0))]) (show ([3, 4, 0, 1, 2] : List Nat).Nodup by decide) (show ([0, 1, 2, 3, 4] : List Nat).Nodup by decide) (fun i => match i with | 0 => rfl | 1 => rfl | 2 => rfl | 3 => rfl | 4 => rfl | _ + 5 => rfl) ?_
              exact (ih m hm).2 d (Int32.ofInt 0) x1 x2 (x3 + (Int32.ofInt 1)) S hD
            · have hD := hD.2 h4
              show u_P L xs m d m_X11_check 76 [(4, .int (Int32.ofInt 0)), (0, .ref 1), (1, .int x1), (2, .int x2), (3, .int x3)] [] S R _
              refine u_st rfl (fun _ => rfl) ?_
              refine u_st rfl (fun _ => rfl) ?_
              refine u_st rfl (fun _ => rfl) ?_
              refine u_st rfl (fun _ => rfl) ?_
              refine u_lc (b := [(0, .ref 1), (1, .int x1), (2, .int x3), (3, .int (x3 + (Int32.ofInt 1))), (4, .int (Int32.ofInt 0))]) (show ([3, 2, 4, 0, 1] : List Nat).Nodup by decide) (show ([0, 1, 2, 3, 4] : List Nat).Nodup by decide) (fun i => match i with | 0 => rfl | 1 => rfl | 2 => rfl | 3 => rfl | 4 => rfl | _ + 5 => rfl) ?_
              exact (ih m hm).2 d (Int32.ofInt 0) x1 x3 (x3 + (Int32.ofInt 1)) S hD
          · have hD := hD.2 h3
            show u_P L xs m d m_X11_check 48 [(0, .ref 1), (1, .int x1), (2, .int x2), (3, .int x3), (4, .int j4)] [] S R _
            refine u_st rfl (fun _ => rfl) ?_
            show u_P L xs m d m_X11_check 49 [(0, .ref 1), (1, .int x1), (2, .int x2), (3, .int x3), (4, .int j4)] [.ref 1] S R _
            refine u_getr rfl v_tyC rfl ?_
            show u_P L xs m d m_X11_check 52 [(0, .ref 1), (1, .int x1), (2, .int x2), (3, .int x3), (4, .int j4)] [.ref 2] S R _
            refine u_getr rfl rfl rfl ?_
            refine u_st rfl (fun _ => rfl) ?_
            show u_P L xs m d m_X11_check 56 [(0, .ref 1), (1, .int x1), (2, .int x2), (3, .int x3), (4, .int j4)] [.int x3, .ref 3] S R _
            refine u_ialdE (v := S 2 x3.toInt.toNat) rfl rfl rfl (fun b51 b52 => ?_)
            have hD := hD b51 b52
            show u_P L xs m d m_X11_check 57 [(0, .ref 1), (1, .int x1), (2, .int x2), (3, .int x3), (4, .int j4)] [.int (S 2 x3.toInt.toNat)] S R _
            refine u_st rfl (fun _ => rfl) ?_
            refine u_st rfl (fun _ => rfl) ?_
            refine u_st rfl (fun _ => rfl) ?_
            show u_P L xs m d m_X11_check 64 [(4, .int (S 2 x3.toInt.toNat)), (0, .ref 1), (1, .int x1), (2, .int x2), (3, .int x3)] [.ref 1] S R _
            refine u_getr rfl v_tyC rfl ?_
            refine u_st rfl (fun _ => rfl) ?_
            show u_P L xs m d m_X11_check 68 [(4, .int (S 2 x3.toInt.toNat)), (0, .ref 1), (1, .int x1), (2, .int x2), (3, .int x3)] [.int x3, .ref 46] S R _
            refine u_cv (rest := []) rfl (by decide) mt_X8_at rfl rfl rfl rfl (Nat.le_of_ble_eq_true rfl) (Nat.le_of_ble_eq_true rfl) (Nat.le_of_ble_eq_true rfl) (fun d' => c_X8_at L xs m d' x3 S R) ?_
            rintro _ _ _ ⟨_, rfl, rfl, rfl, rfl⟩
            refine u_st rfl (fun _ => rfl) ?_
            show u_P L xs m d m_X11_check 73 [(4, .int (S 2 x3.toInt.toNat)), (0, .ref 1), (1, .int x1), (2, .int x2), (3, .int x3)] [.int (S 2 x3.toInt.toNat), .int (f_X8_at x3 S)] S R _
            refine u_ic_eq rfl (fun h6 => ?_) (fun h6 => ?_)
            · have hD := hD.1 h6
              show u_P L xs m d m_X11_check 78 [(4, .int (S 2 x3.toInt.toNat)), (0, .ref 1), (1, .int x1), (2, .int x2), (3, .int x3)] [] S R _
              refine u_st rfl (fun _ => rfl) ?_
              refine u_st rfl (fun _ => rfl) ?_
              refine u_lc (b := [(0, .ref 1), (1, .int x1), (2, .int x2), (3, .int (x3 + (Int32.ofInt 1))), (4, .int (S 2 x3.toInt.toNat))]) (show ([3, 4, 0, 1, 2] : List Nat).Nodup by decide) (show ([0, 1, 2, 3, 4] : List Nat).Nodup by decide) (fun i => match i with | 0 => rfl | 1 => rfl | 2 => rfl | 3 => rfl | 4 => rfl | _ + 5 => rfl) ?_
              exact (ih m hm).2 d (S 2 x3.toInt.toNat) x1 x2 (x3 + (Int32.ofInt 1)) S hD
            · have hD := hD.2 h6
              show u_P L xs m d m_X11_check 76 [(4, .int (S 2 x3.toInt.toNat)), (0, .ref 1), (1, .int x1), (2, .int x2), (3, .int x3)] [] S R _
              refine u_st rfl (fun _ => rfl) ?_
              refine u_st rfl (fun _ => rfl) ?_
              refine u_st rfl (fun _ => rfl) ?_
              refine u_st rfl (fun _ => rfl) ?_
              refine u_lc (b := [(0, .ref 1), (1, .int x1), (2, .int x3), (3, .int (x3 + (Int32.ofInt 1))), (4, .int (S 2 x3.toInt.toNat))]) (show ([3, 2, 4, 0, 1] : List Nat).Nodup by decide) (show ([0, 1, 2, 3, 4] : List Nat).Nodup by decide) (fun i => match i with | 0 => rfl | 1 => rfl | 2 => rfl | 3 => rfl | 4 => rfl | _ + 5 => rfl) ?_
              exact (ih m hm).2 d (S 2 x3.toInt.toNat) x1 x3 (x3 + (Int32.ofInt 1)) S hD
set_option maxRecDepth 4000 in
theorem w_X11_check (L : Nat) (xs : Nat → Int32) {R : v_Rf} (a : Int32) (H27 : Int32 → Int32 → Int32 → v_Sf → Prop) (K : Int32 → v_Sf → Prop) (k27 : ∀ (x1 : Int32) (x2 : Int32) (x3 : Int32) (S : v_Sf), H27 x1 x2 x3 S → D_X11_check_27 H27 K x1 x2 x3 S) (n d : Nat) (S : v_Sf) (hD : D_X11_check a H27 K S) : u_P L xs n d m_X11_check 0 (lv_args 0 [.ref 1, .int a]) [] S R (z_Q R K) := by
  unfold D_X11_check at hD
  show u_P L xs n d m_X11_check 0 [(0, .ref 1), (1, .int a)] [] S R _
  refine u_st rfl (fun _ => rfl) ?_
  refine u_st rfl (fun _ => rfl) ?_
  show u_P L xs n d m_X11_check 3 [(0, .ref 1), (1, .int a)] [.int (Int32.ofInt 12), .int a] S R _
  refine u_cs (ac := [.int a, .int (Int32.ofInt 12)]) (rest := []) rfl (by decide) mt_X11_within (fun _ => rfl) (Nat.le_of_ble_eq_true rfl) (Nat.le_of_ble_eq_true rfl) (fun d' => c_X11_within L xs n d' a (Int32.ofInt 12) S R) ?_
  rintro _ _ _ ⟨_, rfl, rfl, rfl, rfl⟩
  show u_P L xs n d m_X11_check 6 [(0, .ref 1), (1, .int a)] [.int (f_X11_within a (Int32.ofInt 12))] S R _
  refine u_if_eq rfl (fun h1 => ?_) (fun h1 => ?_)
  · have hD := hD.1 h1
    show u_P L xs n d m_X11_check 20 [(0, .ref 1), (1, .int a)] [] S R _
    refine u_st rfl (fun _ => rfl) ?_
    show u_P L xs n d m_X11_check 22 [(0, .ref 1), (1, .int a)] [.int (Int32.ofInt (-2))] S R _
    exact u_ret rfl rfl ⟨_, rfl, rfl, hD⟩
  · have hD := hD.2 h1
    show u_P L xs n d m_X11_check 9 [(0, .ref 1), (1, .int a)] [] S R _
    refine u_st rfl (fun _ => rfl) ?_
    refine u_st rfl (fun _ => rfl) ?_
    show u_P L xs n d m_X11_check 11 [(0, .ref 1), (1, .int a)] [.ref 1, .int a] S R _
    refine u_getr rfl v_tyC rfl ?_
    show u_P L xs n d m_X11_check 14 [(0, .ref 1), (1, .int a)] [.ref 46, .int a] S R _
    refine u_getE (v := S 45 1) rfl rfl rfl rfl ?_
    show u_P L xs n d m_X11_check 17 [(0, .ref 1), (1, .int a)] [.int (S 45 1), .int a] S R _
    refine u_ic_le rfl (fun h2 => ?_) (fun h2 => ?_)
    · have hD := hD.1 h2
      show u_P L xs n d m_X11_check 23 [(0, .ref 1), (1, .int a)] [] S R _
      refine u_st rfl (fun _ => rfl) ?_
      refine u_st rfl (fun _ => rfl) ?_
      refine u_st rfl (fun _ => rfl) ?_
      refine u_st rfl (fun _ => rfl) ?_
      refine u_lc (b := [(0, .ref 1), (1, .int a), (2, .int (Int32.ofInt (-1))), (3, .int (Int32.ofInt 0))]) (show ([3, 2, 0, 1] : List Nat).Nodup by decide) (show ([0, 1, 2, 3] : List Nat).Nodup by decide) (fun i => match i with | 0 => rfl | 1 => rfl | 2 => rfl | 3 => rfl | _ + 4 => rfl) ?_
      exact (hd_X11_check L xs a H27 K k27 n).1 d a (Int32.ofInt (-1)) (Int32.ofInt 0) S hD
    · have hD := hD.2 h2
      show u_P L xs n d m_X11_check 20 [(0, .ref 1), (1, .int a)] [] S R _
      refine u_st rfl (fun _ => rfl) ?_
      show u_P L xs n d m_X11_check 22 [(0, .ref 1), (1, .int a)] [.int (Int32.ofInt (-2))] S R _
      exact u_ret rfl rfl ⟨_, rfl, rfl, hD⟩
noncomputable def r_X11_check_27 (x1 : Int32) : Nat → Nat → Int32 → v_Sf → Int32 × v_Sf
  | 0, k27, x2, S => (x2, g_X8_empty S)
  | r + 1, k27, x2, S => (if ¬ x2 = (Int32.ofInt (-1)) then (x2, g_X8_empty S) else (if (f_X7_hasGust 1 (z_i k27) S) = 0 then (if (f_X8_at (z_i k27) S) = (Int32.ofInt 0) then r_X11_check_27 x1 r (k27 + 1) x2 S else r_X11_check_27 x1 r (k27 + 1) (z_i k27) S) else (if (f_X8_at (z_i k27) S) = (S 2 (z_i k27).toInt.toNat) then r_X11_check_27 x1 r (k27 + 1) x2 S else r_X11_check_27 x1 r (k27 + 1) (z_i k27) S)))
noncomputable def F_X11_check (a : Int32) (S : v_Sf) : Int32 × v_Sf := (if (f_X11_within a (Int32.ofInt 12)) = 0 then (Int32.ofInt (-2), S) else (if a ≤ (S 45 1) then r_X11_check_27 a (a.toInt.toNat - 0) 0 (Int32.ofInt (-1)) S else (Int32.ofInt (-2), S)))
noncomputable def f_X11_check (a : Int32) (S : v_Sf) : Int32 := (F_X11_check a S).1
noncomputable def g_X11_check (a : Int32) (S : v_Sf) : v_Sf := (F_X11_check a S).2
theorem c_X11_check (L : Nat) (xs : Nat → Int32) (n d : Nat) (a : Int32) (S : v_Sf) (R : v_Rf) : u_P L xs n d m_X11_check 0 (lv_args 0 [.ref 1, .int a]) [] S R (z_Q R (fun v S1 => f_X11_check a S = v ∧ g_X11_check a S = S1)) := by
  refine w_X11_check L xs a (fun y1 y2 y3 T => ∃ (k27 : Nat), k27 ≤ a.toInt.toNat ∧ z_i k27 = y3 ∧ a = y1 ∧ r_X11_check_27 a (a.toInt.toNat - k27) k27 y2 T = F_X11_check a S) (fun v S1 => f_X11_check a S = v ∧ g_X11_check a S = S1) ?_ n d S ?_
  · rintro _ x2 _ S1 ⟨k27, hkk, rfl, rfl, e⟩
    unfold D_X11_check_27
    rcases Nat.lt_or_ge k27 (a.toInt.toNat) with hk | hk
    · rw [show a.toInt.toNat - k27 = (a.toInt.toNat - (k27 + 1)) + 1 by omega, r_X11_check_27] at e
      refine ⟨fun q1 => ?_, fun q1 => ?_⟩
      · exact absurd hk (Nat.not_lt.mpr (z_leV q1 (by omega)))
      · refine ⟨fun q2 => ?_, fun q2 => ?_⟩
        · rw [if_pos q2] at e
          have e1 := congrArg Prod.fst e.symm
          have e2 := congrArg Prod.snd e.symm
          exact ⟨e1, e2⟩
        · refine ⟨fun q3 => ?_, fun q3 => ?_⟩
          · refine ⟨fun q4 => ?_, fun q4 => ?_⟩
            · rw [if_neg q2, if_pos q3, if_pos q4] at e
              exact ⟨(k27 + 1), by omega, (z_i1 k27).symm, rfl, e⟩
            · rw [if_neg q2, if_pos q3, if_neg q4] at e
              exact ⟨(k27 + 1), by omega, (z_i1 k27).symm, rfl, e⟩
          · intro _ _
            refine ⟨fun q5 => ?_, fun q5 => ?_⟩
            · rw [if_neg q2, if_neg q3, if_pos q5] at e
              exact ⟨(k27 + 1), by omega, (z_i1 k27).symm, rfl, e⟩
            · rw [if_neg q2, if_neg q3, if_neg q5] at e
              exact ⟨(k27 + 1), by omega, (z_i1 k27).symm, rfl, e⟩
    · rw [show a.toInt.toNat - k27 = 0 by omega, r_X11_check_27] at e
      refine ⟨fun q6 => ?_, fun q6 => ?_⟩
      · have e1 := congrArg Prod.fst e.symm
        have e2 := congrArg Prod.snd e.symm
        exact ⟨e1, e2⟩
      · exact absurd hk (Nat.not_le.mpr (z_ltV q6 (by omega)))
  · unfold D_X11_check
    refine ⟨fun q7 => ?_, fun q7 => ?_⟩
    · have e : (Int32.ofInt (-2), S) = F_X11_check a S := by rw [F_X11_check, if_pos q7]
      have e1 := congrArg Prod.fst e.symm
      have e2 := congrArg Prod.snd e.symm
      exact ⟨e1, e2⟩
    · refine ⟨fun q8 => ?_, fun q8 => ?_⟩
      · have e : r_X11_check_27 a (a.toInt.toNat - 0) 0 (Int32.ofInt (-1)) S = F_X11_check a S := by rw [F_X11_check, if_neg q7, if_pos q8]
        exact ⟨0, by omega, rfl, rfl, e⟩
      · have e : (Int32.ofInt (-2), S) = F_X11_check a S := by rw [F_X11_check, if_neg q7, if_neg q8]
        have e1 := congrArg Prod.fst e.symm
        have e2 := congrArg Prod.snd e.symm
        exact ⟨e1, e2⟩
end PrtS42l
section PrtS42m
noncomputable abbrev m_X12_laysAside : g_M := (g_cn 12, yX12_laysAside, cX12_laysAside, 4, none, g_look2 ttX12_laysAside)
set_option maxRecDepth 20000 in
theorem mt_X12_laysAside : g_mt 239 = some m_X12_laysAside := rfl
noncomputable def D_X12_laysAside_2  (H2 : Int32 → Int32 → v_Sf → Prop) (H107 : Int32 → Int32 → v_Sf → Prop) (H168 : Int32 → Int32 → v_Sf → Prop) (K : v_Sf → Prop) (x1 : Int32) (x2 : Int32) (S : v_Sf) : Prop := (((Int32.ofInt 12) ≤ x2 → H107 x1 (Int32.ofInt 0) S) ∧ (¬ ((Int32.ofInt 12) ≤ x2) → (0 ≤ x2.toInt → x2.toInt < 12 → (0 ≤ (((Int32.ofInt 12) * x1) + x2).toInt → (((Int32.ofInt 12) * x1) + x2).toInt < 24 → (0 ≤ x2.toInt → x2.toInt < 12 → (0 ≤ (((Int32.ofInt 12) * x1) + x2).toInt → (((Int32.ofInt 12) * x1) + x2).toInt < 24 → (0 ≤ x2.toInt → x2.toInt < 12 → (0 ≤ (((Int32.ofInt 12) * x1) + x2).toInt → (((Int32.ofInt 12) * x1) + x2).toInt < 24 → (0 ≤ x2.toInt → x2.toInt < 12 → (0 ≤ (((Int32.ofInt 12) * x1) + x2).toInt → (((Int32.ofInt 12) * x1) + x2).toInt < 24 → (0 ≤ x2.toInt → x2.toInt < 12 → (0 ≤ (((Int32.ofInt 12) * x1) + x2).toInt → (((Int32.ofInt 12) * x1) + x2).toInt < 24 → (0 ≤ x2.toInt → x2.toInt < 12 → (0 ≤ (((Int32.ofInt 12) * x1) + x2).toInt → (((Int32.ofInt 12) * x1) + x2).toInt < 24 → (0 ≤ x2.toInt → x2.toInt < 12 → (0 ≤ (((Int32.ofInt 12) * x1) + x2).toInt → (((Int32.ofInt 12) * x1) + x2).toInt < 24 → H2 x1 (x2 + (Int32.ofInt 1)) (z_s (z_s (z_s (z_s (z_s (z_s (z_s S 137 ((((Int32.ofInt 12) * x1) + x2).toInt.toNat) (u_nar 2 (S 116 x2.toInt.toNat))) 138 ((((Int32.ofInt 12) * x1) + x2).toInt.toNat) (S 117 x2.toInt.toNat)) 139 ((((Int32.ofInt 12) * x1) + x2).toInt.toNat) (S 118 x2.toInt.toNat)) 140 ((((Int32.ofInt 12) * x1) + x2).toInt.toNat) (S 119 x2.toInt.toNat)) 141 ((((Int32.ofInt 12) * x1) + x2).toInt.toNat) (S 120 x2.toInt.toNat)) 142 ((((Int32.ofInt 12) * x1) + x2).toInt.toNat) (S 121 x2.toInt.toNat)) 143 ((((Int32.ofInt 12) * x1) + x2).toInt.toNat) (S 122 x2.toInt.toNat))))))))))))))))))
noncomputable def D_X12_laysAside_107  (H2 : Int32 → Int32 → v_Sf → Prop) (H107 : Int32 → Int32 → v_Sf → Prop) (H168 : Int32 → Int32 → v_Sf → Prop) (K : v_Sf → Prop) (x1 : Int32) (x2 : Int32) (S : v_Sf) : Prop := (((Int32.ofInt 5) ≤ x2 → H168 x1 (Int32.ofInt 0) S) ∧ (¬ ((Int32.ofInt 5) ≤ x2) → (0 ≤ x2.toInt → x2.toInt < 5 → (0 ≤ (((Int32.ofInt 5) * x1) + x2).toInt → (((Int32.ofInt 5) * x1) + x2).toInt < 10 → (0 ≤ x2.toInt → x2.toInt < 5 → (0 ≤ (((Int32.ofInt 5) * x1) + x2).toInt → (((Int32.ofInt 5) * x1) + x2).toInt < 10 → (0 ≤ x2.toInt → x2.toInt < 5 → (0 ≤ (((Int32.ofInt 5) * x1) + x2).toInt → (((Int32.ofInt 5) * x1) + x2).toInt < 10 → H107 x1 (x2 + (Int32.ofInt 1)) (z_s (z_s (z_s S 144 ((((Int32.ofInt 5) * x1) + x2).toInt.toNat) (u_nar 2 (S 129 x2.toInt.toNat))) 145 ((((Int32.ofInt 5) * x1) + x2).toInt.toNat) (S 130 x2.toInt.toNat)) 146 ((((Int32.ofInt 5) * x1) + x2).toInt.toNat) (S 131 x2.toInt.toNat))))))))))
noncomputable def D_X12_laysAside_168  (H2 : Int32 → Int32 → v_Sf → Prop) (H107 : Int32 → Int32 → v_Sf → Prop) (H168 : Int32 → Int32 → v_Sf → Prop) (K : v_Sf → Prop) (x1 : Int32) (x2 : Int32) (S : v_Sf) : Prop := (((Int32.ofInt 6) ≤ x2 → (0 ≤ x1.toInt → x1.toInt < 2 → (0 ≤ x1.toInt → x1.toInt < 2 → (0 ≤ x1.toInt → x1.toInt < 2 → (0 ≤ x1.toInt → x1.toInt < 2 → K (z_s (z_s (z_s (z_s S 148 x1.toInt.toNat (S 99 60)) 149 x1.toInt.toNat (S 99 61)) 150 x1.toInt.toNat (S 99 62)) 151 x1.toInt.toNat (S 99 2))))))) ∧ (¬ ((Int32.ofInt 6) ≤ x2) → (0 ≤ x2.toInt → x2.toInt < 6 → (0 ≤ (((Int32.ofInt 6) * x1) + x2).toInt → (((Int32.ofInt 6) * x1) + x2).toInt < 12 → H168 x1 (x2 + (Int32.ofInt 1)) (z_s S 147 ((((Int32.ofInt 6) * x1) + x2).toInt.toNat) (S 128 x2.toInt.toNat))))))
noncomputable def D_X12_laysAside (a : Int32) (H2 : Int32 → Int32 → v_Sf → Prop) (H107 : Int32 → Int32 → v_Sf → Prop) (H168 : Int32 → Int32 → v_Sf → Prop) (K : v_Sf → Prop) (S : v_Sf) : Prop := H2 a (Int32.ofInt 0) S
set_option maxRecDepth 4000 in
theorem hd_X12_laysAside (L : Nat) (xs : Nat → Int32) {R : v_Rf} (a : Int32) (H2 : Int32 → Int32 → v_Sf → Prop) (H107 : Int32 → Int32 → v_Sf → Prop) (H168 : Int32 → Int32 → v_Sf → Prop) (K : v_Sf → Prop) (k2 : ∀ (x1 : Int32) (x2 : Int32) (S : v_Sf), H2 x1 x2 S → D_X12_laysAside_2 H2 H107 H168 K x1 x2 S) (k107 : ∀ (x1 : Int32) (x2 : Int32) (S : v_Sf), H107 x1 x2 S → D_X12_laysAside_107 H2 H107 H168 K x1 x2 S) (k168 : ∀ (x1 : Int32) (x2 : Int32) (S : v_Sf), H168 x1 x2 S → D_X12_laysAside_168 H2 H107 H168 K x1 x2 S) : ∀ n, (∀ (d : Nat) (x1 : Int32) (x2 : Int32) (S : v_Sf), H2 x1 x2 S → u_P L xs n d m_X12_laysAside 2 [(0, .ref 100), (1, .int x1), (2, .int x2)] [] S R (z_V R K)) ∧ (∀ (d : Nat) (j3 : Int32) (x1 : Int32) (x2 : Int32) (S : v_Sf), H2 x1 x2 S → u_P L xs n d m_X12_laysAside 2 [(0, .ref 100), (1, .int x1), (2, .int x2), (3, .int j3)] [] S R (z_V R K)) ∧ (∀ (d : Nat) (x1 : Int32) (x2 : Int32) (S : v_Sf), H107 x1 x2 S → u_P L xs n d m_X12_laysAside 107 [(0, .ref 100), (1, .int x1), (2, .int x2)] [] S R (z_V R K)) ∧ (∀ (d : Nat) (j3 : Int32) (x1 : Int32) (x2 : Int32) (S : v_Sf), H107 x1 x2 S → u_P L xs n d m_X12_laysAside 107 [(0, .ref 100), (1, .int x1), (2, .int x2), (3, .int j3)] [] S R (z_V R K)) ∧ (∀ (d : Nat) (x1 : Int32) (x2 : Int32) (S : v_Sf), H168 x1 x2 S → u_P L xs n d m_X12_laysAside 168 [(0, .ref 100), (1, .int x1), (2, .int x2)] [] S R (z_V R K)) ∧ (∀ (d : Nat) (j3 : Int32) (x1 : Int32) (x2 : Int32) (S : v_Sf), H168 x1 x2 S → u_P L xs n d m_X12_laysAside 168 [(0, .ref 100), (1, .int x1), (2, .int x2), (3, .int j3)] [] S R (z_V R K)) := by
  intro n
  induction n using Nat.strongRecOn with
  | ind n ih =>
    refine ⟨?_, ?_, ?_, ?_, ?_, ?_⟩
    · intro d x1 x2 S hD
      have hD := k2 x1 x2 S hD
      unfold D_X12_laysAside_2 at hD
      show u_P L xs n d m_X12_laysAside 2 [(0, .ref 100), (1, .int x1), (2, .int x2)] [] S R _
      refine u_st1 rfl (fun _ => rfl) (fun m hm => ?_)
      refine u_st rfl (fun _ => rfl) ?_
      show u_P L xs m d m_X12_laysAside 5 [(0, .ref 100), (1, .int x1), (2, .int x2)] [.int (Int32.ofInt 12), .int x2] S R _
      refine u_ic_ge rfl (fun h1 => ?_) (fun h1 => ?_)
      · have hD := hD.1 h1
        show u_P L xs m d m_X12_laysAside 105 [(0, .ref 100), (1, .int x1), (2, .int x2)] [] S R _
        refine u_st rfl (fun _ => rfl) ?_
        refine u_st rfl (fun _ => rfl) ?_
        refine u_lc (b := [(0, .ref 100), (1, .int x1), (2, .int (Int32.ofInt 0))]) (show ([2, 0, 1] : List Nat).Nodup by decide) (show ([0, 1, 2] : List Nat).Nodup by decide) (fun i => match i with | 0 => rfl | 1 => rfl | 2 => rfl | _ + 3 => rfl) ?_
        exact (ih m hm).2.2.1 d x1 (Int32.ofInt 0) S hD
      · have hD := hD.2 h1
        show u_P L xs m d m_X12_laysAside 8 [(0, .ref 100), (1, .int x1), (2, .int x2)] [] S R _
        refine u_st rfl (fun _ => rfl) ?_
        refine u_st rfl (fun _ => rfl) ?_
        refine u_st rfl (fun _ => rfl) ?_
        refine u_st rfl (fun _ => rfl) ?_
        refine u_st rfl (fun _ => rfl) ?_
        refine u_st rfl (fun _ => rfl) ?_
        refine u_st rfl (fun _ => rfl) ?_
        show u_P L xs m d m_X12_laysAside 16 [(3, .int (((Int32.ofInt 12) * x1) + x2)), (0, .ref 100), (1, .int x1), (2, .int x2)] [.ref 100] S R _
        refine u_getr rfl v_tyM rfl ?_
        refine u_st rfl (fun _ => rfl) ?_
        refine u_st rfl (fun _ => rfl) ?_
        show u_P L xs m d m_X12_laysAside 21 [(3, .int (((Int32.ofInt 12) * x1) + x2)), (0, .ref 100), (1, .int x1), (2, .int x2)] [.ref 100, .int (((Int32.ofInt 12) * x1) + x2), .ref 138] S R _
        refine u_getr rfl v_tyM rfl ?_
        refine u_st rfl (fun _ => rfl) ?_
        show u_P L xs m d m_X12_laysAside 25 [(3, .int (((Int32.ofInt 12) * x1) + x2)), (0, .ref 100), (1, .int x1), (2, .int x2)] [.int x2, .ref 117, .int (((Int32.ofInt 12) * x1) + x2), .ref 138] S R _
        refine u_baldE (v := S 116 x2.toInt.toNat) rfl rfl (by decide) rfl (fun b21 b22 => ?_)
        have hD := hD b21 b22
        show u_P L xs m d m_X12_laysAside 26 [(3, .int (((Int32.ofInt 12) * x1) + x2)), (0, .ref 100), (1, .int x1), (2, .int x2)] [.int (S 116 x2.toInt.toNat), .int (((Int32.ofInt 12) * x1) + x2), .ref 138] S R _
        refine u_bast rfl rfl (by decide) (fun b31 b32 => ?_)
        have hD := hD b31 b32
        show u_P L xs m d m_X12_laysAside 27 [(3, .int (((Int32.ofInt 12) * x1) + x2)), (0, .ref 100), (1, .int x1), (2, .int x2)] [] (z_s S 137 ((((Int32.ofInt 12) * x1) + x2).toInt.toNat) (u_nar 2 (S 116 x2.toInt.toNat))) R _
        refine u_st rfl (fun _ => rfl) ?_
        show u_P L xs m d m_X12_laysAside 28 [(3, .int (((Int32.ofInt 12) * x1) + x2)), (0, .ref 100), (1, .int x1), (2, .int x2)] [.ref 100] (z_s S 137 ((((Int32.ofInt 12) * x1) + x2).toInt.toNat) (u_nar 2 (S 116 x2.toInt.toNat))) R _
        refine u_getr rfl v_tyM rfl ?_
        refine u_st rfl (fun _ => rfl) ?_
        refine u_st rfl (fun _ => rfl) ?_
        show u_P L xs m d m_X12_laysAside 33 [(3, .int (((Int32.ofInt 12) * x1) + x2)), (0, .ref 100), (1, .int x1), (2, .int x2)] [.ref 100, .int (((Int32.ofInt 12) * x1) + x2), .ref 139] (z_s S 137 ((((Int32.ofInt 12) * x1) + x2).toInt.toNat) (u_nar 2 (S 116 x2.toInt.toNat))) R _
        refine u_getr rfl v_tyM rfl ?_
        refine u_st rfl (fun _ => rfl) ?_
        show u_P L xs m d m_X12_laysAside 37 [(3, .int (((Int32.ofInt 12) * x1) + x2)), (0, .ref 100), (1, .int x1), (2, .int x2)] [.int x2, .ref 118, .int (((Int32.ofInt 12) * x1) + x2), .ref 139] (z_s S 137 ((((Int32.ofInt 12) * x1) + x2).toInt.toNat) (u_nar 2 (S 116 x2.toInt.toNat))) R _
        refine u_ialdE (v := S 117 x2.toInt.toNat) rfl rfl (z_sn (fun h => absurd h.1 (by decide))) (fun b41 b42 => ?_)
        have hD := hD b41 b42
        show u_P L xs m d m_X12_laysAside 38 [(3, .int (((Int32.ofInt 12) * x1) + x2)), (0, .ref 100), (1, .int x1), (2, .int x2)] [.int (S 117 x2.toInt.toNat), .int (((Int32.ofInt 12) * x1) + x2), .ref 139] (z_s S 137 ((((Int32.ofInt 12) * x1) + x2).toInt.toNat) (u_nar 2 (S 116 x2.toInt.toNat))) R _
        refine u_iast rfl rfl (fun b51 b52 => ?_)
        have hD := hD b51 b52
        show u_P L xs m d m_X12_laysAside 39 [(3, .int (((Int32.ofInt 12) * x1) + x2)), (0, .ref 100), (1, .int x1), (2, .int x2)] [] (z_s (z_s S 137 ((((Int32.ofInt 12) * x1) + x2).toInt.toNat) (u_nar 2 (S 116 x2.toInt.toNat))) 138 ((((Int32.ofInt 12) * x1) + x2).toInt.toNat) (S 117 x2.toInt.toNat)) R _
        refine u_st rfl (fun _ => rfl) ?_
        show u_P L xs m d m_X12_laysAside 40 [(3, .int (((Int32.ofInt 12) * x1) + x2)), (0, .ref 100), (1, .int x1), (2, .int x2)] [.ref 100] (z_s (z_s S 137 ((((Int32.ofInt 12) * x1) + x2).toInt.toNat) (u_nar 2 (S 116 x2.toInt.toNat))) 138 ((((Int32.ofInt 12) * x1) + x2).toInt.toNat) (S 117 x2.toInt.toNat)) R _
        refine u_getr rfl v_tyM rfl ?_
        refine u_st rfl (fun _ => rfl) ?_
        refine u_st rfl (fun _ => rfl) ?_
        show u_P L xs m d m_X12_laysAside 45 [(3, .int (((Int32.ofInt 12) * x1) + x2)), (0, .ref 100), (1, .int x1), (2, .int x2)] [.ref 100, .int (((Int32.ofInt 12) * x1) + x2), .ref 140] (z_s (z_s S 137 ((((Int32.ofInt 12) * x1) + x2).toInt.toNat) (u_nar 2 (S 116 x2.toInt.toNat))) 138 ((((Int32.ofInt 12) * x1) + x2).toInt.toNat) (S 117 x2.toInt.toNat)) R _
        refine u_getr rfl v_tyM rfl ?_
        refine u_st rfl (fun _ => rfl) ?_
        show u_P L xs m d m_X12_laysAside 49 [(3, .int (((Int32.ofInt 12) * x1) + x2)), (0, .ref 100), (1, .int x1), (2, .int x2)] [.int x2, .ref 119, .int (((Int32.ofInt 12) * x1) + x2), .ref 140] (z_s (z_s S 137 ((((Int32.ofInt 12) * x1) + x2).toInt.toNat) (u_nar 2 (S 116 x2.toInt.toNat))) 138 ((((Int32.ofInt 12) * x1) + x2).toInt.toNat) (S 117 x2.toInt.toNat)) R _
        refine u_ialdE (v := S 118 x2.toInt.toNat) rfl rfl ((z_sn (fun h => absurd h.1 (by decide))).trans (z_sn (fun h => absurd h.1 (by decide)))) (fun b61 b62 => ?_)
        have hD := hD b61 b62
        show u_P L xs m d m_X12_laysAside 50 [(3, .int (((Int32.ofInt 12) * x1) + x2)), (0, .ref 100), (1, .int x1), (2, .int x2)] [.int (S 118 x2.toInt.toNat), .int (((Int32.ofInt 12) * x1) + x2), .ref 140] (z_s (z_s S 137 ((((Int32.ofInt 12) * x1) + x2).toInt.toNat) (u_nar 2 (S 116 x2.toInt.toNat))) 138 ((((Int32.ofInt 12) * x1) + x2).toInt.toNat) (S 117 x2.toInt.toNat)) R _
        refine u_iast rfl rfl (fun b71 b72 => ?_)
        have hD := hD b71 b72
        show u_P L xs m d m_X12_laysAside 51 [(3, .int (((Int32.ofInt 12) * x1) + x2)), (0, .ref 100), (1, .int x1), (2, .int x2)] [] (z_s (z_s (z_s S 137 ((((Int32.ofInt 12) * x1) + x2).toInt.toNat) (u_nar 2 (S 116 x2.toInt.toNat))) 138 ((((Int32.ofInt 12) * x1) + x2).toInt.toNat) (S 117 x2.toInt.toNat)) 139 ((((Int32.ofInt 12) * x1) + x2).toInt.toNat) (S 118 x2.toInt.toNat)) R _
        refine u_st rfl (fun _ => rfl) ?_
        show u_P L xs m d m_X12_laysAside 52 [(3, .int (((Int32.ofInt 12) * x1) + x2)), (0, .ref 100), (1, .int x1), (2, .int x2)] [.ref 100] (z_s (z_s (z_s S 137 ((((Int32.ofInt 12) * x1) + x2).toInt.toNat) (u_nar 2 (S 116 x2.toInt.toNat))) 138 ((((Int32.ofInt 12) * x1) + x2).toInt.toNat) (S 117 x2.toInt.toNat)) 139 ((((Int32.ofInt 12) * x1) + x2).toInt.toNat) (S 118 x2.toInt.toNat)) R _
        refine u_getr rfl v_tyM rfl ?_
        refine u_st rfl (fun _ => rfl) ?_
        refine u_st rfl (fun _ => rfl) ?_
        show u_P L xs m d m_X12_laysAside 57 [(3, .int (((Int32.ofInt 12) * x1) + x2)), (0, .ref 100), (1, .int x1), (2, .int x2)] [.ref 100, .int (((Int32.ofInt 12) * x1) + x2), .ref 141] (z_s (z_s (z_s S 137 ((((Int32.ofInt 12) * x1) + x2).toInt.toNat) (u_nar 2 (S 116 x2.toInt.toNat))) 138 ((((Int32.ofInt 12) * x1) + x2).toInt.toNat) (S 117 x2.toInt.toNat)) 139 ((((Int32.ofInt 12) * x1) + x2).toInt.toNat) (S 118 x2.toInt.toNat)) R _
        refine u_getr rfl v_tyM rfl ?_
        refine u_st rfl (fun _ => rfl) ?_
        show u_P L xs m d m_X12_laysAside 61 [(3, .int (((Int32.ofInt 12) * x1) + x2)), (0, .ref 100), (1, .int x1), (2, .int x2)] [.int x2, .ref 120, .int (((Int32.ofInt 12) * x1) + x2), .ref 141] (z_s (z_s (z_s S 137 ((((Int32.ofInt 12) * x1) + x2).toInt.toNat) (u_nar 2 (S 116 x2.toInt.toNat))) 138 ((((Int32.ofInt 12) * x1) + x2).toInt.toNat) (S 117 x2.toInt.toNat)) 139 ((((Int32.ofInt 12) * x1) + x2).toInt.toNat) (S 118 x2.toInt.toNat)) R _
        refine u_ialdE (v := S 119 x2.toInt.toNat) rfl rfl ((z_sn (fun h => absurd h.1 (by decide))).trans ((z_sn (fun h => absurd h.1 (by decide))).trans (z_sn (fun h => absurd h.1 (by decide))))) (fun b81 b82 => ?_)
        have hD := hD b81 b82
        show u_P L xs m d m_X12_laysAside 62 [(3, .int (((Int32.ofInt 12) * x1) + x2)), (0, .ref 100), (1, .int x1), (2, .int x2)] [.int (S 119 x2.toInt.toNat), .int (((Int32.ofInt 12) * x1) + x2), .ref 141] (z_s (z_s (z_s S 137 ((((Int32.ofInt 12) * x1) + x2).toInt.toNat) (u_nar 2 (S 116 x2.toInt.toNat))) 138 ((((Int32.ofInt 12) * x1) + x2).toInt.toNat) (S 117 x2.toInt.toNat)) 139 ((((Int32.ofInt 12) * x1) + x2).toInt.toNat) (S 118 x2.toInt.toNat)) R _
        refine u_iast rfl rfl (fun b91 b92 => ?_)
        have hD := hD b91 b92
        show u_P L xs m d m_X12_laysAside 63 [(3, .int (((Int32.ofInt 12) * x1) + x2)), (0, .ref 100), (1, .int x1), (2, .int x2)] [] (z_s (z_s (z_s (z_s S 137 ((((Int32.ofInt 12) * x1) + x2).toInt.toNat) (u_nar 2 (S 116 x2.toInt.toNat))) 138 ((((Int32.ofInt 12) * x1) + x2).toInt.toNat) (S 117 x2.toInt.toNat)) 139 ((((Int32.ofInt 12) * x1) + x2).toInt.toNat) (S 118 x2.toInt.toNat)) 140 ((((Int32.ofInt 12) * x1) + x2).toInt.toNat) (S 119 x2.toInt.toNat)) R _
        refine u_st rfl (fun _ => rfl) ?_
        show u_P L xs m d m_X12_laysAside 64 [(3, .int (((Int32.ofInt 12) * x1) + x2)), (0, .ref 100), (1, .int x1), (2, .int x2)] [.ref 100] (z_s (z_s (z_s (z_s S 137 ((((Int32.ofInt 12) * x1) + x2).toInt.toNat) (u_nar 2 (S 116 x2.toInt.toNat))) 138 ((((Int32.ofInt 12) * x1) + x2).toInt.toNat) (S 117 x2.toInt.toNat)) 139 ((((Int32.ofInt 12) * x1) + x2).toInt.toNat) (S 118 x2.toInt.toNat)) 140 ((((Int32.ofInt 12) * x1) + x2).toInt.toNat) (S 119 x2.toInt.toNat)) R _
        refine u_getr rfl v_tyM rfl ?_
        refine u_st rfl (fun _ => rfl) ?_
        refine u_st rfl (fun _ => rfl) ?_
        show u_P L xs m d m_X12_laysAside 69 [(3, .int (((Int32.ofInt 12) * x1) + x2)), (0, .ref 100), (1, .int x1), (2, .int x2)] [.ref 100, .int (((Int32.ofInt 12) * x1) + x2), .ref 142] (z_s (z_s (z_s (z_s S 137 ((((Int32.ofInt 12) * x1) + x2).toInt.toNat) (u_nar 2 (S 116 x2.toInt.toNat))) 138 ((((Int32.ofInt 12) * x1) + x2).toInt.toNat) (S 117 x2.toInt.toNat)) 139 ((((Int32.ofInt 12) * x1) + x2).toInt.toNat) (S 118 x2.toInt.toNat)) 140 ((((Int32.ofInt 12) * x1) + x2).toInt.toNat) (S 119 x2.toInt.toNat)) R _
        refine u_getr rfl v_tyM rfl ?_
        refine u_st rfl (fun _ => rfl) ?_
        show u_P L xs m d m_X12_laysAside 73 [(3, .int (((Int32.ofInt 12) * x1) + x2)), (0, .ref 100), (1, .int x1), (2, .int x2)] [.int x2, .ref 121, .int (((Int32.ofInt 12) * x1) + x2), .ref 142] (z_s (z_s (z_s (z_s S 137 ((((Int32.ofInt 12) * x1) + x2).toInt.toNat) (u_nar 2 (S 116 x2.toInt.toNat))) 138 ((((Int32.ofInt 12) * x1) + x2).toInt.toNat) (S 117 x2.toInt.toNat)) 139 ((((Int32.ofInt 12) * x1) + x2).toInt.toNat) (S 118 x2.toInt.toNat)) 140 ((((Int32.ofInt 12) * x1) + x2).toInt.toNat) (S 119 x2.toInt.toNat)) R _
        refine u_ialdE (v := S 120 x2.toInt.toNat) rfl rfl ((z_sn (fun h => absurd h.1 (by decide))).trans ((z_sn (fun h => absurd h.1 (by decide))).trans ((z_sn (fun h => absurd h.1 (by decide))).trans (z_sn (fun h => absurd h.1 (by decide)))))) (fun b101 b102 => ?_)
        have hD := hD b101 b102
        show u_P L xs m d m_X12_laysAside 74 [(3, .int (((Int32.ofInt 12) * x1) + x2)), (0, .ref 100), (1, .int x1), (2, .int x2)] [.int (S 120 x2.toInt.toNat), .int (((Int32.ofInt 12) * x1) + x2), .ref 142] (z_s (z_s (z_s (z_s S 137 ((((Int32.ofInt 12) * x1) + x2).toInt.toNat) (u_nar 2 (S 116 x2.toInt.toNat))) 138 ((((Int32.ofInt 12) * x1) + x2).toInt.toNat) (S 117 x2.toInt.toNat)) 139 ((((Int32.ofInt 12) * x1) + x2).toInt.toNat) (S 118 x2.toInt.toNat)) 140 ((((Int32.ofInt 12) * x1) + x2).toInt.toNat) (S 119 x2.toInt.toNat)) R _
        refine u_iast rfl rfl (fun b111 b112 => ?_)
        have hD := hD b111 b112
        show u_P L xs m d m_X12_laysAside 75 [(3, .int (((Int32.ofInt 12) * x1) + x2)), (0, .ref 100), (1, .int x1), (2, .int x2)] [] (z_s (z_s (z_s (z_s (z_s S 137 ((((Int32.ofInt 12) * x1) + x2).toInt.toNat) (u_nar 2 (S 116 x2.toInt.toNat))) 138 ((((Int32.ofInt 12) * x1) + x2).toInt.toNat) (S 117 x2.toInt.toNat)) 139 ((((Int32.ofInt 12) * x1) + x2).toInt.toNat) (S 118 x2.toInt.toNat)) 140 ((((Int32.ofInt 12) * x1) + x2).toInt.toNat) (S 119 x2.toInt.toNat)) 141 ((((Int32.ofInt 12) * x1) + x2).toInt.toNat) (S 120 x2.toInt.toNat)) R _
        refine u_st rfl (fun _ => rfl) ?_
        show u_P L xs m d m_X12_laysAside 76 [(3, .int (((Int32.ofInt 12) * x1) + x2)), (0, .ref 100), (1, .int x1), (2, .int x2)] [.ref 100] (z_s (z_s (z_s (z_s (z_s S 137 ((((Int32.ofInt 12) * x1) + x2).toInt.toNat) (u_nar 2 (S 116 x2.toInt.toNat))) 138 ((((Int32.ofInt 12) * x1) + x2).toInt.toNat) (S 117 x2.toInt.toNat)) 139 ((((Int32.ofInt 12) * x1) + x2).toInt.toNat) (S 118 x2.toInt.toNat)) 140 ((((Int32.ofInt 12) * x1) + x2).toInt.toNat) (S 119 x2.toInt.toNat)) 141 ((((Int32.ofInt 12) * x1) + x2).toInt.toNat) (S 120 x2.toInt.toNat)) R _
        refine u_getr rfl v_tyM rfl ?_
        refine u_st rfl (fun _ => rfl) ?_
        refine u_st rfl (fun _ => rfl) ?_
        show u_P L xs m d m_X12_laysAside 81 [(3, .int (((Int32.ofInt 12) * x1) + x2)), (0, .ref 100), (1, .int x1), (2, .int x2)] [.ref 100, .int (((Int32.ofInt 12) * x1) + x2), .ref 143] (z_s (z_s (z_s (z_s (z_s S 137 ((((Int32.ofInt 12) * x1) + x2).toInt.toNat) (u_nar 2 (S 116 x2.toInt.toNat))) 138 ((((Int32.ofInt 12) * x1) + x2).toInt.toNat) (S 117 x2.toInt.toNat)) 139 ((((Int32.ofInt 12) * x1) + x2).toInt.toNat) (S 118 x2.toInt.toNat)) 140 ((((Int32.ofInt 12) * x1) + x2).toInt.toNat) (S 119 x2.toInt.toNat)) 141 ((((Int32.ofInt 12) * x1) + x2).toInt.toNat) (S 120 x2.toInt.toNat)) R _
        refine u_getr rfl v_tyM rfl ?_
        refine u_st rfl (fun _ => rfl) ?_
        show u_P L xs m d m_X12_laysAside 85 [(3, .int (((Int32.ofInt 12) * x1) + x2)), (0, .ref 100), (1, .int x1), (2, .int x2)] [.int x2, .ref 122, .int (((Int32.ofInt 12) * x1) + x2), .ref 143] (z_s (z_s (z_s (z_s (z_s S 137 ((((Int32.ofInt 12) * x1) + x2).toInt.toNat) (u_nar 2 (S 116 x2.toInt.toNat))) 138 ((((Int32.ofInt 12) * x1) + x2).toInt.toNat) (S 117 x2.toInt.toNat)) 139 ((((Int32.ofInt 12) * x1) + x2).toInt.toNat) (S 118 x2.toInt.toNat)) 140 ((((Int32.ofInt 12) * x1) + x2).toInt.toNat) (S 119 x2.toInt.toNat)) 141 ((((Int32.ofInt 12) * x1) + x2).toInt.toNat) (S 120 x2.toInt.toNat)) R _
        refine u_ialdE (v := S 121 x2.toInt.toNat) rfl rfl ((z_sn (fun h => absurd h.1 (by decide))).trans ((z_sn (fun h => absurd h.1 (by decide))).trans ((z_sn (fun h => absurd h.1 (by decide))).trans ((z_sn (fun h => absurd h.1 (by decide))).trans (z_sn (fun h => absurd h.1 (by decide))))))) (fun b121 b122 => ?_)
        have hD := hD b121 b122
        show u_P L xs m d m_X12_laysAside 86 [(3, .int (((Int32.ofInt 12) * x1) + x2)), (0, .ref 100), (1, .int x1), (2, .int x2)] [.int (S 121 x2.toInt.toNat), .int (((Int32.ofInt 12) * x1) + x2), .ref 143] (z_s (z_s (z_s (z_s (z_s S 137 ((((Int32.ofInt 12) * x1) + x2).toInt.toNat) (u_nar 2 (S 116 x2.toInt.toNat))) 138 ((((Int32.ofInt 12) * x1) + x2).toInt.toNat) (S 117 x2.toInt.toNat)) 139 ((((Int32.ofInt 12) * x1) + x2).toInt.toNat) (S 118 x2.toInt.toNat)) 140 ((((Int32.ofInt 12) * x1) + x2).toInt.toNat) (S 119 x2.toInt.toNat)) 141 ((((Int32.ofInt 12) * x1) + x2).toInt.toNat) (S 120 x2.toInt.toNat)) R _
        refine u_iast rfl rfl (fun b131 b132 => ?_)
        have hD := hD b131 b132
        show u_P L xs m d m_X12_laysAside 87 [(3, .int (((Int32.ofInt 12) * x1) + x2)), (0, .ref 100), (1, .int x1), (2, .int x2)] [] (z_s (z_s (z_s (z_s (z_s (z_s S 137 ((((Int32.ofInt 12) * x1) + x2).toInt.toNat) (u_nar 2 (S 116 x2.toInt.toNat))) 138 ((((Int32.ofInt 12) * x1) + x2).toInt.toNat) (S 117 x2.toInt.toNat)) 139 ((((Int32.ofInt 12) * x1) + x2).toInt.toNat) (S 118 x2.toInt.toNat)) 140 ((((Int32.ofInt 12) * x1) + x2).toInt.toNat) (S 119 x2.toInt.toNat)) 141 ((((Int32.ofInt 12) * x1) + x2).toInt.toNat) (S 120 x2.toInt.toNat)) 142 ((((Int32.ofInt 12) * x1) + x2).toInt.toNat) (S 121 x2.toInt.toNat)) R _
        refine u_st rfl (fun _ => rfl) ?_
        show u_P L xs m d m_X12_laysAside 88 [(3, .int (((Int32.ofInt 12) * x1) + x2)), (0, .ref 100), (1, .int x1), (2, .int x2)] [.ref 100] (z_s (z_s (z_s (z_s (z_s (z_s S 137 ((((Int32.ofInt 12) * x1) + x2).toInt.toNat) (u_nar 2 (S 116 x2.toInt.toNat))) 138 ((((Int32.ofInt 12) * x1) + x2).toInt.toNat) (S 117 x2.toInt.toNat)) 139 ((((Int32.ofInt 12) * x1) + x2).toInt.toNat) (S 118 x2.toInt.toNat)) 140 ((((Int32.ofInt 12) * x1) + x2).toInt.toNat) (S 119 x2.toInt.toNat)) 141 ((((Int32.ofInt 12) * x1) + x2).toInt.toNat) (S 120 x2.toInt.toNat)) 142 ((((Int32.ofInt 12) * x1) + x2).toInt.toNat) (S 121 x2.toInt.toNat)) R _
        refine u_getr rfl v_tyM rfl ?_
        refine u_st rfl (fun _ => rfl) ?_
        refine u_st rfl (fun _ => rfl) ?_
        show u_P L xs m d m_X12_laysAside 93 [(3, .int (((Int32.ofInt 12) * x1) + x2)), (0, .ref 100), (1, .int x1), (2, .int x2)] [.ref 100, .int (((Int32.ofInt 12) * x1) + x2), .ref 144] (z_s (z_s (z_s (z_s (z_s (z_s S 137 ((((Int32.ofInt 12) * x1) + x2).toInt.toNat) (u_nar 2 (S 116 x2.toInt.toNat))) 138 ((((Int32.ofInt 12) * x1) + x2).toInt.toNat) (S 117 x2.toInt.toNat)) 139 ((((Int32.ofInt 12) * x1) + x2).toInt.toNat) (S 118 x2.toInt.toNat)) 140 ((((Int32.ofInt 12) * x1) + x2).toInt.toNat) (S 119 x2.toInt.toNat)) 141 ((((Int32.ofInt 12) * x1) + x2).toInt.toNat) (S 120 x2.toInt.toNat)) 142 ((((Int32.ofInt 12) * x1) + x2).toInt.toNat) (S 121 x2.toInt.toNat)) R _
        refine u_getr rfl v_tyM rfl ?_
        refine u_st rfl (fun _ => rfl) ?_
        show u_P L xs m d m_X12_laysAside 97 [(3, .int (((Int32.ofInt 12) * x1) + x2)), (0, .ref 100), (1, .int x1), (2, .int x2)] [.int x2, .ref 123, .int (((Int32.ofInt 12) * x1) + x2), .ref 144] (z_s (z_s (z_s (z_s (z_s (z_s S 137 ((((Int32.ofInt 12) * x1) + x2).toInt.toNat) (u_nar 2 (S 116 x2.toInt.toNat))) 138 ((((Int32.ofInt 12) * x1) + x2).toInt.toNat) (S 117 x2.toInt.toNat)) 139 ((((Int32.ofInt 12) * x1) + x2).toInt.toNat) (S 118 x2.toInt.toNat)) 140 ((((Int32.ofInt 12) * x1) + x2).toInt.toNat) (S 119 x2.toInt.toNat)) 141 ((((Int32.ofInt 12) * x1) + x2).toInt.toNat) (S 120 x2.toInt.toNat)) 142 ((((Int32.ofInt 12) * x1) + x2).toInt.toNat) (S 121 x2.toInt.toNat)) R _
        refine u_ialdE (v := S 122 x2.toInt.toNat) rfl rfl ((z_sn (fun h => absurd h.1 (by decide))).trans ((z_sn (fun h => absurd h.1 (by decide))).trans ((z_sn (fun h => absurd h.1 (by decide))).trans ((z_sn (fun h => absurd h.1 (by decide))).trans ((z_sn (fun h => absurd h.1 (by decide))).trans (z_sn (fun h => absurd h.1 (by decide)))))))) (fun b141 b142 => ?_)
        have hD := hD b141 b142
        show u_P L xs m d m_X12_laysAside 98 [(3, .int (((Int32.ofInt 12) * x1) + x2)), (0, .ref 100), (1, .int x1), (2, .int x2)] [.int (S 122 x2.toInt.toNat), .int (((Int32.ofInt 12) * x1) + x2), .ref 144] (z_s (z_s (z_s (z_s (z_s (z_s S 137 ((((Int32.ofInt 12) * x1) + x2).toInt.toNat) (u_nar 2 (S 116 x2.toInt.toNat))) 138 ((((Int32.ofInt 12) * x1) + x2).toInt.toNat) (S 117 x2.toInt.toNat)) 139 ((((Int32.ofInt 12) * x1) + x2).toInt.toNat) (S 118 x2.toInt.toNat)) 140 ((((Int32.ofInt 12) * x1) + x2).toInt.toNat) (S 119 x2.toInt.toNat)) 141 ((((Int32.ofInt 12) * x1) + x2).toInt.toNat) (S 120 x2.toInt.toNat)) 142 ((((Int32.ofInt 12) * x1) + x2).toInt.toNat) (S 121 x2.toInt.toNat)) R _
        refine u_iast rfl rfl (fun b151 b152 => ?_)
        have hD := hD b151 b152
        show u_P L xs m d m_X12_laysAside 99 [(3, .int (((Int32.ofInt 12) * x1) + x2)), (0, .ref 100), (1, .int x1), (2, .int x2)] [] (z_s (z_s (z_s (z_s (z_s (z_s (z_s S 137 ((((Int32.ofInt 12) * x1) + x2).toInt.toNat) (u_nar 2 (S 116 x2.toInt.toNat))) 138 ((((Int32.ofInt 12) * x1) + x2).toInt.toNat) (S 117 x2.toInt.toNat)) 139 ((((Int32.ofInt 12) * x1) + x2).toInt.toNat) (S 118 x2.toInt.toNat)) 140 ((((Int32.ofInt 12) * x1) + x2).toInt.toNat) (S 119 x2.toInt.toNat)) 141 ((((Int32.ofInt 12) * x1) + x2).toInt.toNat) (S 120 x2.toInt.toNat)) 142 ((((Int32.ofInt 12) * x1) + x2).toInt.toNat) (S 121 x2.toInt.toNat)) 143 ((((Int32.ofInt 12) * x1) + x2).toInt.toNat) (S 122 x2.toInt.toNat)) R _
        refine u_st rfl (fun _ => rfl) ?_
        refine u_st rfl (fun _ => rfl) ?_
        refine u_lc (b := [(0, .ref 100), (1, .int x1), (2, .int (x2 + (Int32.ofInt 1))), (3, .int (((Int32.ofInt 12) * x1) + x2))]) (show ([2, 3, 0, 1] : List Nat).Nodup by decide) (show ([0, 1, 2, 3] : List Nat).Nodup by decide) (fun i => match i with | 0 => rfl | 1 => rfl | 2 => rfl | 3 => rfl | _ + 4 => rfl) ?_
        exact (ih m hm).2.1 d (((Int32.ofInt 12) * x1) + x2) x1 (x2 + (Int32.ofInt 1)) (z_s (z_s (z_s (z_s (z_s (z_s (z_s S 137 ((((Int32.ofInt 12) * x1) + x2).toInt.toNat) (u_nar 2 (S 116 x2.toInt.toNat))) 138 ((((Int32.ofInt 12) * x1) + x2).toInt.toNat) (S 117 x2.toInt.toNat)) 139 ((((Int32.ofInt 12) * x1) + x2).toInt.toNat) (S 118 x2.toInt.toNat)) 140 ((((Int32.ofInt 12) * x1) + x2).toInt.toNat) (S 119 x2.toInt.toNat)) 141 ((((Int32.ofInt 12) * x1) + x2).toInt.toNat) (S 120 x2.toInt.toNat)) 142 ((((Int32.ofInt 12) * x1) + x2).toInt.toNat) (S 121 x2.toInt.toNat)) 143 ((((Int32.ofInt 12) * x1) + x2).toInt.toNat) (S 122 x2.toInt.toNat)) hD
    · intro d j3 x1 x2 S hD
      have hD := k2 x1 x2 S hD
      unfold D_X12_laysAside_2 at hD
      show u_P L xs n d m_X12_laysAside 2 [(0, .ref 100), (1, .int x1), (2, .int x2), (3, .int j3)] [] S R _
      refine u_st1 rfl (fun _ => rfl) (fun m hm => ?_)
      refine u_st rfl (fun _ => rfl) ?_
      show u_P L xs m d m_X12_laysAside 5 [(0, .ref 100), (1, .int x1), (2, .int x2), (3, .int j3)] [.int (Int32.ofInt 12), .int x2] S R _
      refine u_ic_ge rfl (fun h1 => ?_) (fun h1 => ?_)
      · have hD := hD.1 h1
        show u_P L xs m d m_X12_laysAside 105 [(0, .ref 100), (1, .int x1), (2, .int x2), (3, .int j3)] [] S R _
        refine u_st rfl (fun _ => rfl) ?_
        refine u_st rfl (fun _ => rfl) ?_
        refine u_lc (b := [(0, .ref 100), (1, .int x1), (2, .int (Int32.ofInt 0)), (3, .int j3)]) (show ([2, 0, 1, 3] : List Nat).Nodup by decide) (show ([0, 1, 2, 3] : List Nat).Nodup by decide) (fun i => match i with | 0 => rfl | 1 => rfl | 2 => rfl | 3 => rfl | _ + 4 => rfl) ?_
        exact (ih m hm).2.2.2.1 d j3 x1 (Int32.ofInt 0) S hD
      · have hD := hD.2 h1
        show u_P L xs m d m_X12_laysAside 8 [(0, .ref 100), (1, .int x1), (2, .int x2), (3, .int j3)] [] S R _
        refine u_st rfl (fun _ => rfl) ?_
        refine u_st rfl (fun _ => rfl) ?_
        refine u_st rfl (fun _ => rfl) ?_
        refine u_st rfl (fun _ => rfl) ?_
        refine u_st rfl (fun _ => rfl) ?_
        refine u_st rfl (fun _ => rfl) ?_
        refine u_st rfl (fun _ => rfl) ?_
        show u_P L xs m d m_X12_laysAside 16 [(3, .int (((Int32.ofInt 12) * x1) + x2)), (0, .ref 100), (1, .int x1), (2, .int x2)] [.ref 100] S R _
        refine u_getr rfl v_tyM rfl ?_
        refine u_st rfl (fun _ => rfl) ?_
        refine u_st rfl (fun _ => rfl) ?_
        show u_P L xs m d m_X12_laysAside 21 [(3, .int (((Int32.ofInt 12) * x1) + x2)), (0, .ref 100), (1, .int x1), (2, .int x2)] [.ref 100, .int (((Int32.ofInt 12) * x1) + x2), .ref 138] S R _
        refine u_getr rfl v_tyM rfl ?_
        refine u_st rfl (fun _ => rfl) ?_
        show u_P L xs m d m_X12_laysAside 25 [(3, .int (((Int32.ofInt 12) * x1) + x2)), (0, .ref 100), (1, .int x1), (2, .int x2)] [.int x2, .ref 117, .int (((Int32.ofInt 12) * x1) + x2), .ref 138] S R _
        refine u_baldE (v := S 116 x2.toInt.toNat) rfl rfl (by decide) rfl (fun b21 b22 => ?_)
        have hD := hD b21 b22
        show u_P L xs m d m_X12_laysAside 26 [(3, .int (((Int32.ofInt 12) * x1) + x2)), (0, .ref 100), (1, .int x1), (2, .int x2)] [.int (S 116 x2.toInt.toNat), .int (((Int32.ofInt 12) * x1) + x2), .ref 138] S R _
        refine u_bast rfl rfl (by decide) (fun b31 b32 => ?_)
        have hD := hD b31 b32
        show u_P L xs m d m_X12_laysAside 27 [(3, .int (((Int32.ofInt 12) * x1) + x2)), (0, .ref 100), (1, .int x1), (2, .int x2)] [] (z_s S 137 ((((Int32.ofInt 12) * x1) + x2).toInt.toNat) (u_nar 2 (S 116 x2.toInt.toNat))) R _
        refine u_st rfl (fun _ => rfl) ?_
        show u_P L xs m d m_X12_laysAside 28 [(3, .int (((Int32.ofInt 12) * x1) + x2)), (0, .ref 100), (1, .int x1), (2, .int x2)] [.ref 100] (z_s S 137 ((((Int32.ofInt 12) * x1) + x2).toInt.toNat) (u_nar 2 (S 116 x2.toInt.toNat))) R _
        refine u_getr rfl v_tyM rfl ?_
        refine u_st rfl (fun _ => rfl) ?_
        refine u_st rfl (fun _ => rfl) ?_
        show u_P L xs m d m_X12_laysAside 33 [(3, .int (((Int32.ofInt 12) * x1) + x2)), (0, .ref 100), (1, .int x1), (2, .int x2)] [.ref 100, .int (((Int32.ofInt 12) * x1) + x2), .ref 139] (z_s S 137 ((((Int32.ofInt 12) * x1) + x2).toInt.toNat) (u_nar 2 (S 116 x2.toInt.toNat))) R _
        refine u_getr rfl v_tyM rfl ?_
        refine u_st rfl (fun _ => rfl) ?_
        show u_P L xs m d m_X12_laysAside 37 [(3, .int (((Int32.ofInt 12) * x1) + x2)), (0, .ref 100), (1, .int x1), (2, .int x2)] [.int x2, .ref 118, .int (((Int32.ofInt 12) * x1) + x2), .ref 139] (z_s S 137 ((((Int32.ofInt 12) * x1) + x2).toInt.toNat) (u_nar 2 (S 116 x2.toInt.toNat))) R _
        refine u_ialdE (v := S 117 x2.toInt.toNat) rfl rfl (z_sn (fun h => absurd h.1 (by decide))) (fun b41 b42 => ?_)
        have hD := hD b41 b42
        show u_P L xs m d m_X12_laysAside 38 [(3, .int (((Int32.ofInt 12) * x1) + x2)), (0, .ref 100), (1, .int x1), (2, .int x2)] [.int (S 117 x2.toInt.toNat), .int (((Int32.ofInt 12) * x1) + x2), .ref 139] (z_s S 137 ((((Int32.ofInt 12) * x1) + x2).toInt.toNat) (u_nar 2 (S 116 x2.toInt.toNat))) R _
        refine u_iast rfl rfl (fun b51 b52 => ?_)
        have hD := hD b51 b52
        show u_P L xs m d m_X12_laysAside 39 [(3, .int (((Int32.ofInt 12) * x1) + x2)), (0, .ref 100), (1, .int x1), (2, .int x2)] [] (z_s (z_s S 137 ((((Int32.ofInt 12) * x1) + x2).toInt.toNat) (u_nar 2 (S 116 x2.toInt.toNat))) 138 ((((Int32.ofInt 12) * x1) + x2).toInt.toNat) (S 117 x2.toInt.toNat)) R _
        refine u_st rfl (fun _ => rfl) ?_
        show u_P L xs m d m_X12_laysAside 40 [(3, .int (((Int32.ofInt 12) * x1) + x2)), (0, .ref 100), (1, .int x1), (2, .int x2)] [.ref 100] (z_s (z_s S 137 ((((Int32.ofInt 12) * x1) + x2).toInt.toNat) (u_nar 2 (S 116 x2.toInt.toNat))) 138 ((((Int32.ofInt 12) * x1) + x2).toInt.toNat) (S 117 x2.toInt.toNat)) R _
        refine u_getr rfl v_tyM rfl ?_
        refine u_st rfl (fun _ => rfl) ?_
        refine u_st rfl (fun _ => rfl) ?_
        show u_P L xs m d m_X12_laysAside 45 [(3, .int (((Int32.ofInt 12) * x1) + x2)), (0, .ref 100), (1, .int x1), (2, .int x2)] [.ref 100, .int (((Int32.ofInt 12) * x1) + x2), .ref 140] (z_s (z_s S 137 ((((Int32.ofInt 12) * x1) + x2).toInt.toNat) (u_nar 2 (S 116 x2.toInt.toNat))) 138 ((((Int32.ofInt 12) * x1) + x2).toInt.toNat) (S 117 x2.toInt.toNat)) R _
        refine u_getr rfl v_tyM rfl ?_
        refine u_st rfl (fun _ => rfl) ?_
        show u_P L xs m d m_X12_laysAside 49 [(3, .int (((Int32.ofInt 12) * x1) + x2)), (0, .ref 100), (1, .int x1), (2, .int x2)] [.int x2, .ref 119, .int (((Int32.ofInt 12) * x1) + x2), .ref 140] (z_s (z_s S 137 ((((Int32.ofInt 12) * x1) + x2).toInt.toNat) (u_nar 2 (S 116 x2.toInt.toNat))) 138 ((((Int32.ofInt 12) * x1) + x2).toInt.toNat) (S 117 x2.toInt.toNat)) R _
        refine u_ialdE (v := S 118 x2.toInt.toNat) rfl rfl ((z_sn (fun h => absurd h.1 (by decide))).trans (z_sn (fun h => absurd h.1 (by decide)))) (fun b61 b62 => ?_)
        have hD := hD b61 b62
        show u_P L xs m d m_X12_laysAside 50 [(3, .int (((Int32.ofInt 12) * x1) + x2)), (0, .ref 100), (1, .int x1), (2, .int x2)] [.int (S 118 x2.toInt.toNat), .int (((Int32.ofInt 12) * x1) + x2), .ref 140] (z_s (z_s S 137 ((((Int32.ofInt 12) * x1) + x2).toInt.toNat) (u_nar 2 (S 116 x2.toInt.toNat))) 138 ((((Int32.ofInt 12) * x1) + x2).toInt.toNat) (S 117 x2.toInt.toNat)) R _
        refine u_iast rfl rfl (fun b71 b72 => ?_)
        have hD := hD b71 b72
        show u_P L xs m d m_X12_laysAside 51 [(3, .int (((Int32.ofInt 12) * x1) + x2)), (0, .ref 100), (1, .int x1), (2, .int x2)] [] (z_s (z_s (z_s S 137 ((((Int32.ofInt 12) * x1) + x2).toInt.toNat) (u_nar 2 (S 116 x2.toInt.toNat))) 138 ((((Int32.ofInt 12) * x1) + x2).toInt.toNat) (S 117 x2.toInt.toNat)) 139 ((((Int32.ofInt 12) * x1) + x2).toInt.toNat) (S 118 x2.toInt.toNat)) R _
        refine u_st rfl (fun _ => rfl) ?_
        show u_P L xs m d m_X12_laysAside 52 [(3, .int (((Int32.ofInt 12) * x1) + x2)), (0, .ref 100), (1, .int x1), (2, .int x2)] [.ref 100] (z_s (z_s (z_s S 137 ((((Int32.ofInt 12) * x1) + x2).toInt.toNat) (u_nar 2 (S 116 x2.toInt.toNat))) 138 ((((Int32.ofInt 12) * x1) + x2).toInt.toNat) (S 117 x2.toInt.toNat)) 139 ((((Int32.ofInt 12) * x1) + x2).toInt.toNat) (S 118 x2.toInt.toNat)) R _
        refine u_getr rfl v_tyM rfl ?_
        refine u_st rfl (fun _ => rfl) ?_
        refine u_st rfl (fun _ => rfl) ?_
        show u_P L xs m d m_X12_laysAside 57 [(3, .int (((Int32.ofInt 12) * x1) + x2)), (0, .ref 100), (1, .int x1), (2, .int x2)] [.ref 100, .int (((Int32.ofInt 12) * x1) + x2), .ref 141] (z_s (z_s (z_s S 137 ((((Int32.ofInt 12) * x1) + x2).toInt.toNat) (u_nar 2 (S 116 x2.toInt.toNat))) 138 ((((Int32.ofInt 12) * x1) + x2).toInt.toNat) (S 117 x2.toInt.toNat)) 139 ((((Int32.ofInt 12) * x1) + x2).toInt.toNat) (S 118 x2.toInt.toNat)) R _
        refine u_getr rfl v_tyM rfl ?_
        refine u_st rfl (fun _ => rfl) ?_
        show u_P L xs m d m_X12_laysAside 61 [(3, .int (((Int32.ofInt 12) * x1) + x2)), (0, .ref 100), (1, .int x1), (2, .int x2)] [.int x2, .ref 120, .int (((Int32.ofInt 12) * x1) + x2), .ref 141] (z_s (z_s (z_s S 137 ((((Int32.ofInt 12) * x1) + x2).toInt.toNat) (u_nar 2 (S 116 x2.toInt.toNat))) 138 ((((Int32.ofInt 12) * x1) + x2).toInt.toNat) (S 117 x2.toInt.toNat)) 139 ((((Int32.ofInt 12) * x1) + x2).toInt.toNat) (S 118 x2.toInt.toNat)) R _
        refine u_ialdE (v := S 119 x2.toInt.toNat) rfl rfl ((z_sn (fun h => absurd h.1 (by decide))).trans ((z_sn (fun h => absurd h.1 (by decide))).trans (z_sn (fun h => absurd h.1 (by decide))))) (fun b81 b82 => ?_)
        have hD := hD b81 b82
        show u_P L xs m d m_X12_laysAside 62 [(3, .int (((Int32.ofInt 12) * x1) + x2)), (0, .ref 100), (1, .int x1), (2, .int x2)] [.int (S 119 x2.toInt.toNat), .int (((Int32.ofInt 12) * x1) + x2), .ref 141] (z_s (z_s (z_s S 137 ((((Int32.ofInt 12) * x1) + x2).toInt.toNat) (u_nar 2 (S 116 x2.toInt.toNat))) 138 ((((Int32.ofInt 12) * x1) + x2).toInt.toNat) (S 117 x2.toInt.toNat)) 139 ((((Int32.ofInt 12) * x1) + x2).toInt.toNat) (S 118 x2.toInt.toNat)) R _
        refine u_iast rfl rfl (fun b91 b92 => ?_)
        have hD := hD b91 b92
        show u_P L xs m d m_X12_laysAside 63 [(3, .int (((Int32.ofInt 12) * x1) + x2)), (0, .ref 100), (1, .int x1), (2, .int x2)] [] (z_s (z_s (z_s (z_s S 137 ((((Int32.ofInt 12) * x1) + x2).toInt.toNat) (u_nar 2 (S 116 x2.toInt.toNat))) 138 ((((Int32.ofInt 12) * x1) + x2).toInt.toNat) (S 117 x2.toInt.toNat)) 139 ((((Int32.ofInt 12) * x1) + x2).toInt.toNat) (S 118 x2.toInt.toNat)) 140 ((((Int32.ofInt 12) * x1) + x2).toInt.toNat) (S 119 x2.toInt.toNat)) R _
        refine u_st rfl (fun _ => rfl) ?_
        show u_P L xs m d m_X12_laysAside 64 [(3, .int (((Int32.ofInt 12) * x1) + x2)), (0, .ref 100), (1, .int x1), (2, .int x2)] [.ref 100] (z_s (z_s (z_s (z_s S 137 ((((Int32.ofInt 12) * x1) + x2).toInt.toNat) (u_nar 2 (S 116 x2.toInt.toNat))) 138 ((((Int32.ofInt 12) * x1) + x2).toInt.toNat) (S 117 x2.toInt.toNat)) 139 ((((Int32.ofInt 12) * x1) + x2).toInt.toNat) (S 118 x2.toInt.toNat)) 140 ((((Int32.ofInt 12) * x1) + x2).toInt.toNat) (S 119 x2.toInt.toNat)) R _
        refine u_getr rfl v_tyM rfl ?_
        refine u_st rfl (fun _ => rfl) ?_
        refine u_st rfl (fun _ => rfl) ?_
        show u_P L xs m d m_X12_laysAside 69 [(3, .int (((Int32.ofInt 12) * x1) + x2)), (0, .ref 100), (1, .int x1), (2, .int x2)] [.ref 100, .int (((Int32.ofInt 12) * x1) + x2), .ref 142] (z_s (z_s (z_s (z_s S 137 ((((Int32.ofInt 12) * x1) + x2).toInt.toNat) (u_nar 2 (S 116 x2.toInt.toNat))) 138 ((((Int32.ofInt 12) * x1) + x2).toInt.toNat) (S 117 x2.toInt.toNat)) 139 ((((Int32.ofInt 12) * x1) + x2).toInt.toNat) (S 118 x2.toInt.toNat)) 140 ((((Int32.ofInt 12) * x1) + x2).toInt.toNat) (S 119 x2.toInt.toNat)) R _
        refine u_getr rfl v_tyM rfl ?_
        refine u_st rfl (fun _ => rfl) ?_
        show u_P L xs m d m_X12_laysAside 73 [(3, .int (((Int32.ofInt 12) * x1) + x2)), (0, .ref 100), (1, .int x1), (2, .int x2)] [.int x2, .ref 121, .int (((Int32.ofInt 12) * x1) + x2), .ref 142] (z_s (z_s (z_s (z_s S 137 ((((Int32.ofInt 12) * x1) + x2).toInt.toNat) (u_nar 2 (S 116 x2.toInt.toNat))) 138 ((((Int32.ofInt 12) * x1) + x2).toInt.toNat) (S 117 x2.toInt.toNat)) 139 ((((Int32.ofInt 12) * x1) + x2).toInt.toNat) (S 118 x2.toInt.toNat)) 140 ((((Int32.ofInt 12) * x1) + x2).toInt.toNat) (S 119 x2.toInt.toNat)) R _
        refine u_ialdE (v := S 120 x2.toInt.toNat) rfl rfl ((z_sn (fun h => absurd h.1 (by decide))).trans ((z_sn (fun h => absurd h.1 (by decide))).trans ((z_sn (fun h => absurd h.1 (by decide))).trans (z_sn (fun h => absurd h.1 (by decide)))))) (fun b101 b102 => ?_)
        have hD := hD b101 b102
        show u_P L xs m d m_X12_laysAside 74 [(3, .int (((Int32.ofInt 12) * x1) + x2)), (0, .ref 100), (1, .int x1), (2, .int x2)] [.int (S 120 x2.toInt.toNat), .int (((Int32.ofInt 12) * x1) + x2), .ref 142] (z_s (z_s (z_s (z_s S 137 ((((Int32.ofInt 12) * x1) + x2).toInt.toNat) (u_nar 2 (S 116 x2.toInt.toNat))) 138 ((((Int32.ofInt 12) * x1) + x2).toInt.toNat) (S 117 x2.toInt.toNat)) 139 ((((Int32.ofInt 12) * x1) + x2).toInt.toNat) (S 118 x2.toInt.toNat)) 140 ((((Int32.ofInt 12) * x1) + x2).toInt.toNat) (S 119 x2.toInt.toNat)) R _
        refine u_iast rfl rfl (fun b111 b112 => ?_)
        have hD := hD b111 b112
        show u_P L xs m d m_X12_laysAside 75 [(3, .int (((Int32.ofInt 12) * x1) + x2)), (0, .ref 100), (1, .int x1), (2, .int x2)] [] (z_s (z_s (z_s (z_s (z_s S 137 ((((Int32.ofInt 12) * x1) + x2).toInt.toNat) (u_nar 2 (S 116 x2.toInt.toNat))) 138 ((((Int32.ofInt 12) * x1) + x2).toInt.toNat) (S 117 x2.toInt.toNat)) 139 ((((Int32.ofInt 12) * x1) + x2).toInt.toNat) (S 118 x2.toInt.toNat)) 140 ((((Int32.ofInt 12) * x1) + x2).toInt.toNat) (S 119 x2.toInt.toNat)) 141 ((((Int32.ofInt 12) * x1) + x2).toInt.toNat) (S 120 x2.toInt.toNat)) R _
        refine u_st rfl (fun _ => rfl) ?_
        show u_P L xs m d m_X12_laysAside 76 [(3, .int (((Int32.ofInt 12) * x1) + x2)), (0, .ref 100), (1, .int x1), (2, .int x2)] [.ref 100] (z_s (z_s (z_s (z_s (z_s S 137 ((((Int32.ofInt 12) * x1) + x2).toInt.toNat) (u_nar 2 (S 116 x2.toInt.toNat))) 138 ((((Int32.ofInt 12) * x1) + x2).toInt.toNat) (S 117 x2.toInt.toNat)) 139 ((((Int32.ofInt 12) * x1) + x2).toInt.toNat) (S 118 x2.toInt.toNat)) 140 ((((Int32.ofInt 12) * x1) + x2).toInt.toNat) (S 119 x2.toInt.toNat)) 141 ((((Int32.ofInt 12) * x1) + x2).toInt.toNat) (S 120 x2.toInt.toNat)) R _
        refine u_getr rfl v_tyM rfl ?_
        refine u_st rfl (fun _ => rfl) ?_
        refine u_st rfl (fun _ => rfl) ?_
        show u_P L xs m d m_X12_laysAside 81 [(3, .int (((Int32.ofInt 12) * x1) + x2)), (0, .ref 100), (1, .int x1), (2, .int x2)] [.ref 100, .int (((Int32.ofInt 12) * x1) + x2), .ref 143] (z_s (z_s (z_s (z_s (z_s S 137 ((((Int32.ofInt 12) * x1) + x2).toInt.toNat) (u_nar 2 (S 116 x2.toInt.toNat))) 138 ((((Int32.ofInt 12) * x1) + x2).toInt.toNat) (S 117 x2.toInt.toNat)) 139 ((((Int32.ofInt 12) * x1) + x2).toInt.toNat) (S 118 x2.toInt.toNat)) 140 ((((Int32.ofInt 12) * x1) + x2).toInt.toNat) (S 119 x2.toInt.toNat)) 141 ((((Int32.ofInt 12) * x1) + x2).toInt.toNat) (S 120 x2.toInt.toNat)) R _
        refine u_getr rfl v_tyM rfl ?_
        refine u_st rfl (fun _ => rfl) ?_
        show u_P L xs m d m_X12_laysAside 85 [(3, .int (((Int32.ofInt 12) * x1) + x2)), (0, .ref 100), (1, .int x1), (2, .int x2)] [.int x2, .ref 122, .int (((Int32.ofInt 12) * x1) + x2), .ref 143] (z_s (z_s (z_s (z_s (z_s S 137 ((((Int32.ofInt 12) * x1) + x2).toInt.toNat) (u_nar 2 (S 116 x2.toInt.toNat))) 138 ((((Int32.ofInt 12) * x1) + x2).toInt.toNat) (S 117 x2.toInt.toNat)) 139 ((((Int32.ofInt 12) * x1) + x2).toInt.toNat) (S 118 x2.toInt.toNat)) 140 ((((Int32.ofInt 12) * x1) + x2).toInt.toNat) (S 119 x2.toInt.toNat)) 141 ((((Int32.ofInt 12) * x1) + x2).toInt.toNat) (S 120 x2.toInt.toNat)) R _
        refine u_ialdE (v := S 121 x2.toInt.toNat) rfl rfl ((z_sn (fun h => absurd h.1 (by decide))).trans ((z_sn (fun h => absurd h.1 (by decide))).trans ((z_sn (fun h => absurd h.1 (by decide))).trans ((z_sn (fun h => absurd h.1 (by decide))).trans (z_sn (fun h => absurd h.1 (by decide))))))) (fun b121 b122 => ?_)
        have hD := hD b121 b122
        show u_P L xs m d m_X12_laysAside 86 [(3, .int (((Int32.ofInt 12) * x1) + x2)), (0, .ref 100), (1, .int x1), (2, .int x2)] [.int (S 121 x2.toInt.toNat), .int (((Int32.ofInt 12) * x1) + x2), .ref 143] (z_s (z_s (z_s (z_s (z_s S 137 ((((Int32.ofInt 12) * x1) + x2).toInt.toNat) (u_nar 2 (S 116 x2.toInt.toNat))) 138 ((((Int32.ofInt 12) * x1) + x2).toInt.toNat) (S 117 x2.toInt.toNat)) 139 ((((Int32.ofInt 12) * x1) + x2).toInt.toNat) (S 118 x2.toInt.toNat)) 140 ((((Int32.ofInt 12) * x1) + x2).toInt.toNat) (S 119 x2.toInt.toNat)) 141 ((((Int32.ofInt 12) * x1) + x2).toInt.toNat) (S 120 x2.toInt.toNat)) R _
        refine u_iast rfl rfl (fun b131 b132 => ?_)
        have hD := hD b131 b132
        show u_P L xs m d m_X12_laysAside 87 [(3, .int (((Int32.ofInt 12) * x1) + x2)), (0, .ref 100), (1, .int x1), (2, .int x2)] [] (z_s (z_s (z_s (z_s (z_s (z_s S 137 ((((Int32.ofInt 12) * x1) + x2).toInt.toNat) (u_nar 2 (S 116 x2.toInt.toNat))) 138 ((((Int32.ofInt 12) * x1) + x2).toInt.toNat) (S 117 x2.toInt.toNat)) 139 ((((Int32.ofInt 12) * x1) + x2).toInt.toNat) (S 118 x2.toInt.toNat)) 140 ((((Int32.ofInt 12) * x1) + x2).toInt.toNat) (S 119 x2.toInt.toNat)) 141 ((((Int32.ofInt 12) * x1) + x2).toInt.toNat) (S 120 x2.toInt.toNat)) 142 ((((Int32.ofInt 12) * x1) + x2).toInt.toNat) (S 121 x2.toInt.toNat)) R _
        refine u_st rfl (fun _ => rfl) ?_
        show u_P L xs m d m_X12_laysAside 88 [(3, .int (((Int32.ofInt 12) * x1) + x2)), (0, .ref 100), (1, .int x1), (2, .int x2)] [.ref 100] (z_s (z_s (z_s (z_s (z_s (z_s S 137 ((((Int32.ofInt 12) * x1) + x2).toInt.toNat) (u_nar 2 (S 116 x2.toInt.toNat))) 138 ((((Int32.ofInt 12) * x1) + x2).toInt.toNat) (S 117 x2.toInt.toNat)) 139 ((((Int32.ofInt 12) * x1) + x2).toInt.toNat) (S 118 x2.toInt.toNat)) 140 ((((Int32.ofInt 12) * x1) + x2).toInt.toNat) (S 119 x2.toInt.toNat)) 141 ((((Int32.ofInt 12) * x1) + x2).toInt.toNat) (S 120 x2.toInt.toNat)) 142 ((((Int32.ofInt 12) * x1) + x2).toInt.toNat) (S 121 x2.toInt.toNat)) R _
        refine u_getr rfl v_tyM rfl ?_
        refine u_st rfl (fun _ => rfl) ?_
        refine u_st rfl (fun _ => rfl) ?_
        show u_P L xs m d m_X12_laysAside 93 [(3, .int (((Int32.ofInt 12) * x1) + x2)), (0, .ref 100), (1, .int x1), (2, .int x2)] [.ref 100, .int (((Int32.ofInt 12) * x1) + x2), .ref 144] (z_s (z_s (z_s (z_s (z_s (z_s S 137 ((((Int32.ofInt 12) * x1) + x2).toInt.toNat) (u_nar 2 (S 116 x2.toInt.toNat))) 138 ((((Int32.ofInt 12) * x1) + x2).toInt.toNat) (S 117 x2.toInt.toNat)) 139 ((((Int32.ofInt 12) * x1) + x2).toInt.toNat) (S 118 x2.toInt.toNat)) 140 ((((Int32.ofInt 12) * x1) + x2).toInt.toNat) (S 119 x2.toInt.toNat)) 141 ((((Int32.ofInt 12) * x1) + x2).toInt.toNat) (S 120 x2.toInt.toNat)) 142 ((((Int32.ofInt 12) * x1) + x2).toInt.toNat) (S 121 x2.toInt.toNat)) R _
        refine u_getr rfl v_tyM rfl ?_
        refine u_st rfl (fun _ => rfl) ?_
        show u_P L xs m d m_X12_laysAside 97 [(3, .int (((Int32.ofInt 12) * x1) + x2)), (0, .ref 100), (1, .int x1), (2, .int x2)] [.int x2, .ref 123, .int (((Int32.ofInt 12) * x1) + x2), .ref 144] (z_s (z_s (z_s (z_s (z_s (z_s S 137 ((((Int32.ofInt 12) * x1) + x2).toInt.toNat) (u_nar 2 (S 116 x2.toInt.toNat))) 138 ((((Int32.ofInt 12) * x1) + x2).toInt.toNat) (S 117 x2.toInt.toNat)) 139 ((((Int32.ofInt 12) * x1) + x2).toInt.toNat) (S 118 x2.toInt.toNat)) 140 ((((Int32.ofInt 12) * x1) + x2).toInt.toNat) (S 119 x2.toInt.toNat)) 141 ((((Int32.ofInt 12) * x1) + x2).toInt.toNat) (S 120 x2.toInt.toNat)) 142 ((((Int32.ofInt 12) * x1) + x2).toInt.toNat) (S 121 x2.toInt.toNat)) R _
        refine u_ialdE (v := S 122 x2.toInt.toNat) rfl rfl ((z_sn (fun h => absurd h.1 (by decide))).trans ((z_sn (fun h => absurd h.1 (by decide))).trans ((z_sn (fun h => absurd h.1 (by decide))).trans ((z_sn (fun h => absurd h.1 (by decide))).trans ((z_sn (fun h => absurd h.1 (by decide))).trans (z_sn (fun h => absurd h.1 (by decide)))))))) (fun b141 b142 => ?_)
        have hD := hD b141 b142
        show u_P L xs m d m_X12_laysAside 98 [(3, .int (((Int32.ofInt 12) * x1) + x2)), (0, .ref 100), (1, .int x1), (2, .int x2)] [.int (S 122 x2.toInt.toNat), .int (((Int32.ofInt 12) * x1) + x2), .ref 144] (z_s (z_s (z_s (z_s (z_s (z_s S 137 ((((Int32.ofInt 12) * x1) + x2).toInt.toNat) (u_nar 2 (S 116 x2.toInt.toNat))) 138 ((((Int32.ofInt 12) * x1) + x2).toInt.toNat) (S 117 x2.toInt.toNat)) 139 ((((Int32.ofInt 12) * x1) + x2).toInt.toNat) (S 118 x2.toInt.toNat)) 140 ((((Int32.ofInt 12) * x1) + x2).toInt.toNat) (S 119 x2.toInt.toNat)) 141 ((((Int32.ofInt 12) * x1) + x2).toInt.toNat) (S 120 x2.toInt.toNat)) 142 ((((Int32.ofInt 12) * x1) + x2).toInt.toNat) (S 121 x2.toInt.toNat)) R _
        refine u_iast rfl rfl (fun b151 b152 => ?_)
        have hD := hD b151 b152
        show u_P L xs m d m_X12_laysAside 99 [(3, .int (((Int32.ofInt 12) * x1) + x2)), (0, .ref 100), (1, .int x1), (2, .int x2)] [] (z_s (z_s (z_s (z_s (z_s (z_s (z_s S 137 ((((Int32.ofInt 12) * x1) + x2).toInt.toNat) (u_nar 2 (S 116 x2.toInt.toNat))) 138 ((((Int32.ofInt 12) * x1) + x2).toInt.toNat) (S 117 x2.toInt.toNat)) 139 ((((Int32.ofInt 12) * x1) + x2).toInt.toNat) (S 118 x2.toInt.toNat)) 140 ((((Int32.ofInt 12) * x1) + x2).toInt.toNat) (S 119 x2.toInt.toNat)) 141 ((((Int32.ofInt 12) * x1) + x2).toInt.toNat) (S 120 x2.toInt.toNat)) 142 ((((Int32.ofInt 12) * x1) + x2).toInt.toNat) (S 121 x2.toInt.toNat)) 143 ((((Int32.ofInt 12) * x1) + x2).toInt.toNat) (S 122 x2.toInt.toNat)) R _
        refine u_st rfl (fun _ => rfl) ?_
        refine u_st rfl (fun _ => rfl) ?_
        refine u_lc (b := [(0, .ref 100), (1, .int x1), (2, .int (x2 + (Int32.ofInt 1))), (3, .int (((Int32.ofInt 12) * x1) + x2))]) (show ([2, 3, 0, 1] : List Nat).Nodup by decide) (show ([0, 1, 2, 3] : List Nat).Nodup by decide) (fun i => match i with | 0 => rfl | 1 => rfl | 2 => rfl | 3 => rfl | _ + 4 => rfl) ?_
        exact (ih m hm).2.1 d (((Int32.ofInt 12) * x1) + x2) x1 (x2 + (Int32.ofInt 1)) (z_s (z_s (z_s (z_s (z_s (z_s (z_s S 137 ((((Int32.ofInt 12) * x1) + x2).toInt.toNat) (u_nar 2 (S 116 x2.toInt.toNat))) 138 ((((Int32.ofInt 12) * x1) + x2).toInt.toNat) (S 117 x2.toInt.toNat)) 139 ((((Int32.ofInt 12) * x1) + x2).toInt.toNat) (S 118 x2.toInt.toNat)) 140 ((((Int32.ofInt 12) * x1) + x2).toInt.toNat) (S 119 x2.toInt.toNat)) 141 ((((Int32.ofInt 12) * x1) + x2).toInt.toNat) (S 120 x2.toInt.toNat)) 142 ((((Int32.ofInt 12) * x1) + x2).toInt.toNat) (S 121 x2.toInt.toNat)) 143 ((((Int32.ofInt 12) * x1) + x2).toInt.toNat) (S 122 x2.toInt.toNat)) hD
    · intro d x1 x2 S hD
      have hD := k107 x1 x2 S hD
      unfold D_X12_laysAside_107 at hD
      show u_P L xs n d m_X12_laysAside 107 [(0, .ref 100), (1, .int x1), (2, .int x2)] [] S R _
      refine u_st1 rfl (fun _ => rfl) (fun m hm => ?_)
      refine u_st rfl (fun _ => rfl) ?_
      show u_P L xs m d m_X12_laysAside 109 [(0, .ref 100), (1, .int x1), (2, .int x2)] [.int (Int32.ofInt 5), .int x2] S R _
      refine u_ic_ge rfl (fun h1 => ?_) (fun h1 => ?_)
      · have hD := hD.1 h1
        show u_P L xs m d m_X12_laysAside 166 [(0, .ref 100), (1, .int x1), (2, .int x2)] [] S R _
        refine u_st rfl (fun _ => rfl) ?_
        refine u_st rfl (fun _ => rfl) ?_
        refine u_lc (b := [(0, .ref 100), (1, .int x1), (2, .int (Int32.ofInt 0))]) (show ([2, 0, 1] : List Nat).Nodup by decide) (show ([0, 1, 2] : List Nat).Nodup by decide) (fun i => match i with | 0 => rfl | 1 => rfl | 2 => rfl | _ + 3 => rfl) ?_
        exact (ih m hm).2.2.2.2.1 d x1 (Int32.ofInt 0) S hD
      · have hD := hD.2 h1
        show u_P L xs m d m_X12_laysAside 112 [(0, .ref 100), (1, .int x1), (2, .int x2)] [] S R _
        refine u_st rfl (fun _ => rfl) ?_
        show u_P L xs m d m_X12_laysAside 113 [(0, .ref 100), (1, .int x1), (2, .int x2)] [.ref 100] S R _
        refine u_getr rfl v_tyM rfl ?_
        refine u_st rfl (fun _ => rfl) ?_
        refine u_st rfl (fun _ => rfl) ?_
        refine u_st rfl (fun _ => rfl) ?_
        refine u_st rfl (fun _ => rfl) ?_
        refine u_st rfl (fun _ => rfl) ?_
        refine u_st rfl (fun _ => rfl) ?_
        show u_P L xs m d m_X12_laysAside 122 [(0, .ref 100), (1, .int x1), (2, .int x2)] [.ref 100, .int (((Int32.ofInt 5) * x1) + x2), .ref 145] S R _
        refine u_getr rfl v_tyM rfl ?_
        refine u_st rfl (fun _ => rfl) ?_
        show u_P L xs m d m_X12_laysAside 126 [(0, .ref 100), (1, .int x1), (2, .int x2)] [.int x2, .ref 130, .int (((Int32.ofInt 5) * x1) + x2), .ref 145] S R _
        refine u_baldE (v := S 129 x2.toInt.toNat) rfl rfl (by decide) rfl (fun b21 b22 => ?_)
        have hD := hD b21 b22
        show u_P L xs m d m_X12_laysAside 127 [(0, .ref 100), (1, .int x1), (2, .int x2)] [.int (S 129 x2.toInt.toNat), .int (((Int32.ofInt 5) * x1) + x2), .ref 145] S R _
        refine u_bast rfl rfl (by decide) (fun b31 b32 => ?_)
        have hD := hD b31 b32
        show u_P L xs m d m_X12_laysAside 128 [(0, .ref 100), (1, .int x1), (2, .int x2)] [] (z_s S 144 ((((Int32.ofInt 5) * x1) + x2).toInt.toNat) (u_nar 2 (S 129 x2.toInt.toNat))) R _
        refine u_st rfl (fun _ => rfl) ?_
        show u_P L xs m d m_X12_laysAside 129 [(0, .ref 100), (1, .int x1), (2, .int x2)] [.ref 100] (z_s S 144 ((((Int32.ofInt 5) * x1) + x2).toInt.toNat) (u_nar 2 (S 129 x2.toInt.toNat))) R _
        refine u_getr rfl v_tyM rfl ?_
        refine u_st rfl (fun _ => rfl) ?_
        refine u_st rfl (fun _ => rfl) ?_
        refine u_st rfl (fun _ => rfl) ?_
        refine u_st rfl (fun _ => rfl) ?_
        refine u_st rfl (fun _ => rfl) ?_
        refine u_st rfl (fun _ => rfl) ?_
        show u_P L xs m d m_X12_laysAside 138 [(0, .ref 100), (1, .int x1), (2, .int x2)] [.ref 100, .int (((Int32.ofInt 5) * x1) + x2), .ref 146] (z_s S 144 ((((Int32.ofInt 5) * x1) + x2).toInt.toNat) (u_nar 2 (S 129 x2.toInt.toNat))) R _
        refine u_getr rfl v_tyM rfl ?_
        refine u_st rfl (fun _ => rfl) ?_
        show u_P L xs m d m_X12_laysAside 142 [(0, .ref 100), (1, .int x1), (2, .int x2)] [.int x2, .ref 131, .int (((Int32.ofInt 5) * x1) + x2), .ref 146] (z_s S 144 ((((Int32.ofInt 5) * x1) + x2).toInt.toNat) (u_nar 2 (S 129 x2.toInt.toNat))) R _
        refine u_ialdE (v := S 130 x2.toInt.toNat) rfl rfl (z_sn (fun h => absurd h.1 (by decide))) (fun b41 b42 => ?_)
        have hD := hD b41 b42
        show u_P L xs m d m_X12_laysAside 143 [(0, .ref 100), (1, .int x1), (2, .int x2)] [.int (S 130 x2.toInt.toNat), .int (((Int32.ofInt 5) * x1) + x2), .ref 146] (z_s S 144 ((((Int32.ofInt 5) * x1) + x2).toInt.toNat) (u_nar 2 (S 129 x2.toInt.toNat))) R _
        refine u_iast rfl rfl (fun b51 b52 => ?_)
        have hD := hD b51 b52
        show u_P L xs m d m_X12_laysAside 144 [(0, .ref 100), (1, .int x1), (2, .int x2)] [] (z_s (z_s S 144 ((((Int32.ofInt 5) * x1) + x2).toInt.toNat) (u_nar 2 (S 129 x2.toInt.toNat))) 145 ((((Int32.ofInt 5) * x1) + x2).toInt.toNat) (S 130 x2.toInt.toNat)) R _
        refine u_st rfl (fun _ => rfl) ?_
        show u_P L xs m d m_X12_laysAside 145 [(0, .ref 100), (1, .int x1), (2, .int x2)] [.ref 100] (z_s (z_s S 144 ((((Int32.ofInt 5) * x1) + x2).toInt.toNat) (u_nar 2 (S 129 x2.toInt.toNat))) 145 ((((Int32.ofInt 5) * x1) + x2).toInt.toNat) (S 130 x2.toInt.toNat)) R _
        refine u_getr rfl v_tyM rfl ?_
        refine u_st rfl (fun _ => rfl) ?_
        refine u_st rfl (fun _ => rfl) ?_
        refine u_st rfl (fun _ => rfl) ?_
        refine u_st rfl (fun _ => rfl) ?_
        refine u_st rfl (fun _ => rfl) ?_
        refine u_st rfl (fun _ => rfl) ?_
        show u_P L xs m d m_X12_laysAside 154 [(0, .ref 100), (1, .int x1), (2, .int x2)] [.ref 100, .int (((Int32.ofInt 5) * x1) + x2), .ref 147] (z_s (z_s S 144 ((((Int32.ofInt 5) * x1) + x2).toInt.toNat) (u_nar 2 (S 129 x2.toInt.toNat))) 145 ((((Int32.ofInt 5) * x1) + x2).toInt.toNat) (S 130 x2.toInt.toNat)) R _
        refine u_getr rfl v_tyM rfl ?_
        refine u_st rfl (fun _ => rfl) ?_
        show u_P L xs m d m_X12_laysAside 158 [(0, .ref 100), (1, .int x1), (2, .int x2)] [.int x2, .ref 132, .int (((Int32.ofInt 5) * x1) + x2), .ref 147] (z_s (z_s S 144 ((((Int32.ofInt 5) * x1) + x2).toInt.toNat) (u_nar 2 (S 129 x2.toInt.toNat))) 145 ((((Int32.ofInt 5) * x1) + x2).toInt.toNat) (S 130 x2.toInt.toNat)) R _
        refine u_ialdE (v := S 131 x2.toInt.toNat) rfl rfl ((z_sn (fun h => absurd h.1 (by decide))).trans (z_sn (fun h => absurd h.1 (by decide)))) (fun b61 b62 => ?_)
        have hD := hD b61 b62
        show u_P L xs m d m_X12_laysAside 159 [(0, .ref 100), (1, .int x1), (2, .int x2)] [.int (S 131 x2.toInt.toNat), .int (((Int32.ofInt 5) * x1) + x2), .ref 147] (z_s (z_s S 144 ((((Int32.ofInt 5) * x1) + x2).toInt.toNat) (u_nar 2 (S 129 x2.toInt.toNat))) 145 ((((Int32.ofInt 5) * x1) + x2).toInt.toNat) (S 130 x2.toInt.toNat)) R _
        refine u_iast rfl rfl (fun b71 b72 => ?_)
        have hD := hD b71 b72
        show u_P L xs m d m_X12_laysAside 160 [(0, .ref 100), (1, .int x1), (2, .int x2)] [] (z_s (z_s (z_s S 144 ((((Int32.ofInt 5) * x1) + x2).toInt.toNat) (u_nar 2 (S 129 x2.toInt.toNat))) 145 ((((Int32.ofInt 5) * x1) + x2).toInt.toNat) (S 130 x2.toInt.toNat)) 146 ((((Int32.ofInt 5) * x1) + x2).toInt.toNat) (S 131 x2.toInt.toNat)) R _
        refine u_st rfl (fun _ => rfl) ?_
        refine u_st rfl (fun _ => rfl) ?_
        refine u_lc (b := [(0, .ref 100), (1, .int x1), (2, .int (x2 + (Int32.ofInt 1)))]) (show ([2, 0, 1] : List Nat).Nodup by decide) (show ([0, 1, 2] : List Nat).Nodup by decide) (fun i => match i with | 0 => rfl | 1 => rfl | 2 => rfl | _ + 3 => rfl) ?_
        exact (ih m hm).2.2.1 d x1 (x2 + (Int32.ofInt 1)) (z_s (z_s (z_s S 144 ((((Int32.ofInt 5) * x1) + x2).toInt.toNat) (u_nar 2 (S 129 x2.toInt.toNat))) 145 ((((Int32.ofInt 5) * x1) + x2).toInt.toNat) (S 130 x2.toInt.toNat)) 146 ((((Int32.ofInt 5) * x1) + x2).toInt.toNat) (S 131 x2.toInt.toNat)) hD
    · intro d j3 x1 x2 S hD
      have hD := k107 x1 x2 S hD
      unfold D_X12_laysAside_107 at hD
      show u_P L xs n d m_X12_laysAside 107 [(0, .ref 100), (1, .int x1), (2, .int x2), (3, .int j3)] [] S R _
      refine u_st1 rfl (fun _ => rfl) (fun m hm => ?_)
      refine u_st rfl (fun _ => rfl) ?_
      show u_P L xs m d m_X12_laysAside 109 [(0, .ref 100), (1, .int x1), (2, .int x2), (3, .int j3)] [.int (Int32.ofInt 5), .int x2] S R _
      refine u_ic_ge rfl (fun h1 => ?_) (fun h1 => ?_)
      · have hD := hD.1 h1
        show u_P L xs m d m_X12_laysAside 166 [(0, .ref 100), (1, .int x1), (2, .int x2), (3, .int j3)] [] S R _
        refine u_st rfl (fun _ => rfl) ?_
        refine u_st rfl (fun _ => rfl) ?_
        refine u_lc (b := [(0, .ref 100), (1, .int x1), (2, .int (Int32.ofInt 0)), (3, .int j3)]) (show ([2, 0, 1, 3] : List Nat).Nodup by decide) (show ([0, 1, 2, 3] : List Nat).Nodup by decide) (fun i => match i with | 0 => rfl | 1 => rfl | 2 => rfl | 3 => rfl | _ + 4 => rfl) ?_
        exact (ih m hm).2.2.2.2.2 d j3 x1 (Int32.ofInt 0) S hD
      · have hD := hD.2 h1
        show u_P L xs m d m_X12_laysAside 112 [(0, .ref 100), (1, .int x1), (2, .int x2), (3, .int j3)] [] S R _
        refine u_st rfl (fun _ => rfl) ?_
        show u_P L xs m d m_X12_laysAside 113 [(0, .ref 100), (1, .int x1), (2, .int x2), (3, .int j3)] [.ref 100] S R _
        refine u_getr rfl v_tyM rfl ?_
        refine u_st rfl (fun _ => rfl) ?_
        refine u_st rfl (fun _ => rfl) ?_
        refine u_st rfl (fun _ => rfl) ?_
        refine u_st rfl (fun _ => rfl) ?_
        refine u_st rfl (fun _ => rfl) ?_
        refine u_st rfl (fun _ => rfl) ?_
        show u_P L xs m d m_X12_laysAside 122 [(0, .ref 100), (1, .int x1), (2, .int x2), (3, .int j3)] [.ref 100, .int (((Int32.ofInt 5) * x1) + x2), .ref 145] S R _
        refine u_getr rfl v_tyM rfl ?_
        refine u_st rfl (fun _ => rfl) ?_
        show u_P L xs m d m_X12_laysAside 126 [(0, .ref 100), (1, .int x1), (2, .int x2), (3, .int j3)] [.int x2, .ref 130, .int (((Int32.ofInt 5) * x1) + x2), .ref 145] S R _
        refine u_baldE (v := S 129 x2.toInt.toNat) rfl rfl (by decide) rfl (fun b21 b22 => ?_)
        have hD := hD b21 b22
        show u_P L xs m d m_X12_laysAside 127 [(0, .ref 100), (1, .int x1), (2, .int x2), (3, .int j3)] [.int (S 129 x2.toInt.toNat), .int (((Int32.ofInt 5) * x1) + x2), .ref 145] S R _
        refine u_bast rfl rfl (by decide) (fun b31 b32 => ?_)
        have hD := hD b31 b32
        show u_P L xs m d m_X12_laysAside 128 [(0, .ref 100), (1, .int x1), (2, .int x2), (3, .int j3)] [] (z_s S 144 ((((Int32.ofInt 5) * x1) + x2).toInt.toNat) (u_nar 2 (S 129 x2.toInt.toNat))) R _
        refine u_st rfl (fun _ => rfl) ?_
        show u_P L xs m d m_X12_laysAside 129 [(0, .ref 100), (1, .int x1), (2, .int x2), (3, .int j3)] [.ref 100] (z_s S 144 ((((Int32.ofInt 5) * x1) + x2).toInt.toNat) (u_nar 2 (S 129 x2.toInt.toNat))) R _
        refine u_getr rfl v_tyM rfl ?_
        refine u_st rfl (fun _ => rfl) ?_
        refine u_st rfl (fun _ => rfl) ?_
        refine u_st rfl (fun _ => rfl) ?_
        refine u_st rfl (fun _ => rfl) ?_
        refine u_st rfl (fun _ => rfl) ?_
        refine u_st rfl (fun _ => rfl) ?_
        show u_P L xs m d m_X12_laysAside 138 [(0, .ref 100), (1, .int x1), (2, .int x2), (3, .int j3)] [.ref 100, .int (((Int32.ofInt 5) * x1) + x2), .ref 146] (z_s S 144 ((((Int32.ofInt 5) * x1) + x2).toInt.toNat) (u_nar 2 (S 129 x2.toInt.toNat))) R _
        refine u_getr rfl v_tyM rfl ?_
        refine u_st rfl (fun _ => rfl) ?_
        show u_P L xs m d m_X12_laysAside 142 [(0, .ref 100), (1, .int x1), (2, .int x2), (3, .int j3)] [.int x2, .ref 131, .int (((Int32.ofInt 5) * x1) + x2), .ref 146] (z_s S 144 ((((Int32.ofInt 5) * x1) + x2).toInt.toNat) (u_nar 2 (S 129 x2.toInt.toNat))) R _
        refine u_ialdE (v := S 130 x2.toInt.toNat) rfl rfl (z_sn (fun h => absurd h.1 (by decide))) (fun b41 b42 => ?_)
        have hD := hD b41 b42
        show u_P L xs m d m_X12_laysAside 143 [(0, .ref 100), (1, .int x1), (2, .int x2), (3, .int j3)] [.int (S 130 x2.toInt.toNat), .int (((Int32.ofInt 5) * x1) + x2), .ref 146] (z_s S 144 ((((Int32.ofInt 5) * x1) + x2).toInt.toNat) (u_nar 2 (S 129 x2.toInt.toNat))) R _
        refine u_iast rfl rfl (fun b51 b52 => ?_)
        have hD := hD b51 b52
        show u_P L xs m d m_X12_laysAside 144 [(0, .ref 100), (1, .int x1), (2, .int x2), (3, .int j3)] [] (z_s (z_s S 144 ((((Int32.ofInt 5) * x1) + x2).toInt.toNat) (u_nar 2 (S 129 x2.toInt.toNat))) 145 ((((Int32.ofInt 5) * x1) + x2).toInt.toNat) (S 130 x2.toInt.toNat)) R _
        refine u_st rfl (fun _ => rfl) ?_
        show u_P L xs m d m_X12_laysAside 145 [(0, .ref 100), (1, .int x1), (2, .int x2), (3, .int j3)] [.ref 100] (z_s (z_s S 144 ((((Int32.ofInt 5) * x1) + x2).toInt.toNat) (u_nar 2 (S 129 x2.toInt.toNat))) 145 ((((Int32.ofInt 5) * x1) + x2).toInt.toNat) (S 130 x2.toInt.toNat)) R _
        refine u_getr rfl v_tyM rfl ?_
        refine u_st rfl (fun _ => rfl) ?_
        refine u_st rfl (fun _ => rfl) ?_
        refine u_st rfl (fun _ => rfl) ?_
        refine u_st rfl (fun _ => rfl) ?_
        refine u_st rfl (fun _ => rfl) ?_
        refine u_st rfl (fun _ => rfl) ?_
        show u_P L xs m d m_X12_laysAside 154 [(0, .ref 100), (1, .int x1), (2, .int x2), (3, .int j3)] [.ref 100, .int (((Int32.ofInt 5) * x1) + x2), .ref 147] (z_s (z_s S 144 ((((Int32.ofInt 5) * x1) + x2).toInt.toNat) (u_nar 2 (S 129 x2.toInt.toNat))) 145 ((((Int32.ofInt 5) * x1) + x2).toInt.toNat) (S 130 x2.toInt.toNat)) R _
        refine u_getr rfl v_tyM rfl ?_
        refine u_st rfl (fun _ => rfl) ?_
        show u_P L xs m d m_X12_laysAside 158 [(0, .ref 100), (1, .int x1), (2, .int x2), (3, .int j3)] [.int x2, .ref 132, .int (((Int32.ofInt 5) * x1) + x2), .ref 147] (z_s (z_s S 144 ((((Int32.ofInt 5) * x1) + x2).toInt.toNat) (u_nar 2 (S 129 x2.toInt.toNat))) 145 ((((Int32.ofInt 5) * x1) + x2).toInt.toNat) (S 130 x2.toInt.toNat)) R _
        refine u_ialdE (v := S 131 x2.toInt.toNat) rfl rfl ((z_sn (fun h => absurd h.1 (by decide))).trans (z_sn (fun h => absurd h.1 (by decide)))) (fun b61 b62 => ?_)
        have hD := hD b61 b62
        show u_P L xs m d m_X12_laysAside 159 [(0, .ref 100), (1, .int x1), (2, .int x2), (3, .int j3)] [.int (S 131 x2.toInt.toNat), .int (((Int32.ofInt 5) * x1) + x2), .ref 147] (z_s (z_s S 144 ((((Int32.ofInt 5) * x1) + x2).toInt.toNat) (u_nar 2 (S 129 x2.toInt.toNat))) 145 ((((Int32.ofInt 5) * x1) + x2).toInt.toNat) (S 130 x2.toInt.toNat)) R _
        refine u_iast rfl rfl (fun b71 b72 => ?_)
        have hD := hD b71 b72
        show u_P L xs m d m_X12_laysAside 160 [(0, .ref 100), (1, .int x1), (2, .int x2), (3, .int j3)] [] (z_s (z_s (z_s S 144 ((((Int32.ofInt 5) * x1) + x2).toInt.toNat) (u_nar 2 (S 129 x2.toInt.toNat))) 145 ((((Int32.ofInt 5) * x1) + x2).toInt.toNat) (S 130 x2.toInt.toNat)) 146 ((((Int32.ofInt 5) * x1) + x2).toInt.toNat) (S 131 x2.toInt.toNat)) R _
        refine u_st rfl (fun _ => rfl) ?_
        refine u_st rfl (fun _ => rfl) ?_
        refine u_lc (b := [(0, .ref 100), (1, .int x1), (2, .int (x2 + (Int32.ofInt 1))), (3, .int j3)]) (show ([2, 0, 1, 3] : List Nat).Nodup by decide) (show ([0, 1, 2, 3] : List Nat).Nodup by decide) (fun i => match i with | 0 => rfl | 1 => rfl | 2 => rfl | 3 => rfl | _ + 4 => rfl) ?_
        exact (ih m hm).2.2.2.1 d j3 x1 (x2 + (Int32.ofInt 1)) (z_s (z_s (z_s S 144 ((((Int32.ofInt 5) * x1) + x2).toInt.toNat) (u_nar 2 (S 129 x2.toInt.toNat))) 145 ((((Int32.ofInt 5) * x1) + x2).toInt.toNat) (S 130 x2.toInt.toNat)) 146 ((((Int32.ofInt 5) * x1) + x2).toInt.toNat) (S 131 x2.toInt.toNat)) hD
    · intro d x1 x2 S hD
      have hD := k168 x1 x2 S hD
      unfold D_X12_laysAside_168 at hD
      show u_P L xs n d m_X12_laysAside 168 [(0, .ref 100), (1, .int x1), (2, .int x2)] [] S R _
      refine u_st1 rfl (fun _ => rfl) (fun m hm => ?_)
      refine u_st rfl (fun _ => rfl) ?_
      show u_P L xs m d m_X12_laysAside 171 [(0, .ref 100), (1, .int x1), (2, .int x2)] [.int (Int32.ofInt 6), .int x2] S R _
      refine u_ic_ge rfl (fun h1 => ?_) (fun h1 => ?_)
      · have hD := hD.1 h1
        show u_P L xs m d m_X12_laysAside 197 [(0, .ref 100), (1, .int x1), (2, .int x2)] [] S R _
        refine u_st rfl (fun _ => rfl) ?_
        show u_P L xs m d m_X12_laysAside 198 [(0, .ref 100), (1, .int x1), (2, .int x2)] [.ref 100] S R _
        refine u_getr rfl v_tyM rfl ?_
        refine u_st rfl (fun _ => rfl) ?_
        refine u_st rfl (fun _ => rfl) ?_
        show u_P L xs m d m_X12_laysAside 203 [(0, .ref 100), (1, .int x1), (2, .int x2)] [.ref 100, .int x1, .ref 149] S R _
        refine u_getE (v := S 99 60) rfl v_tyM rfl rfl ?_
        show u_P L xs m d m_X12_laysAside 206 [(0, .ref 100), (1, .int x1), (2, .int x2)] [.int (S 99 60), .int x1, .ref 149] S R _
        refine u_iast rfl rfl (fun b21 b22 => ?_)
        have hD := hD b21 b22
        show u_P L xs m d m_X12_laysAside 207 [(0, .ref 100), (1, .int x1), (2, .int x2)] [] (z_s S 148 x1.toInt.toNat (S 99 60)) R _
        refine u_st rfl (fun _ => rfl) ?_
        show u_P L xs m d m_X12_laysAside 208 [(0, .ref 100), (1, .int x1), (2, .int x2)] [.ref 100] (z_s S 148 x1.toInt.toNat (S 99 60)) R _
        refine u_getr rfl v_tyM rfl ?_
        refine u_st rfl (fun _ => rfl) ?_
        refine u_st rfl (fun _ => rfl) ?_
        show u_P L xs m d m_X12_laysAside 213 [(0, .ref 100), (1, .int x1), (2, .int x2)] [.ref 100, .int x1, .ref 150] (z_s S 148 x1.toInt.toNat (S 99 60)) R _
        refine u_getE (v := S 99 61) rfl v_tyM rfl (z_sn (fun h => absurd h.1 (by decide))) ?_
        show u_P L xs m d m_X12_laysAside 216 [(0, .ref 100), (1, .int x1), (2, .int x2)] [.int (S 99 61), .int x1, .ref 150] (z_s S 148 x1.toInt.toNat (S 99 60)) R _
        refine u_iast rfl rfl (fun b31 b32 => ?_)
        have hD := hD b31 b32
        show u_P L xs m d m_X12_laysAside 217 [(0, .ref 100), (1, .int x1), (2, .int x2)] [] (z_s (z_s S 148 x1.toInt.toNat (S 99 60)) 149 x1.toInt.toNat (S 99 61)) R _
        refine u_st rfl (fun _ => rfl) ?_
        show u_P L xs m d m_X12_laysAside 218 [(0, .ref 100), (1, .int x1), (2, .int x2)] [.ref 100] (z_s (z_s S 148 x1.toInt.toNat (S 99 60)) 149 x1.toInt.toNat (S 99 61)) R _
        refine u_getr rfl v_tyM rfl ?_
        refine u_st rfl (fun _ => rfl) ?_
        refine u_st rfl (fun _ => rfl) ?_
        show u_P L xs m d m_X12_laysAside 223 [(0, .ref 100), (1, .int x1), (2, .int x2)] [.ref 100, .int x1, .ref 151] (z_s (z_s S 148 x1.toInt.toNat (S 99 60)) 149 x1.toInt.toNat (S 99 61)) R _
        refine u_getE (v := S 99 62) rfl v_tyM rfl ((z_sn (fun h => absurd h.1 (by decide))).trans (z_sn (fun h => absurd h.1 (by decide)))) ?_
        show u_P L xs m d m_X12_laysAside 226 [(0, .ref 100), (1, .int x1), (2, .int x2)] [.int (S 99 62), .int x1, .ref 151] (z_s (z_s S 148 x1.toInt.toNat (S 99 60)) 149 x1.toInt.toNat (S 99 61)) R _
        refine u_iast rfl rfl (fun b41 b42 => ?_)
        have hD := hD b41 b42
        show u_P L xs m d m_X12_laysAside 227 [(0, .ref 100), (1, .int x1), (2, .int x2)] [] (z_s (z_s (z_s S 148 x1.toInt.toNat (S 99 60)) 149 x1.toInt.toNat (S 99 61)) 150 x1.toInt.toNat (S 99 62)) R _
        refine u_st rfl (fun _ => rfl) ?_
        show u_P L xs m d m_X12_laysAside 228 [(0, .ref 100), (1, .int x1), (2, .int x2)] [.ref 100] (z_s (z_s (z_s S 148 x1.toInt.toNat (S 99 60)) 149 x1.toInt.toNat (S 99 61)) 150 x1.toInt.toNat (S 99 62)) R _
        refine u_getr rfl v_tyM rfl ?_
        refine u_st rfl (fun _ => rfl) ?_
        refine u_st rfl (fun _ => rfl) ?_
        show u_P L xs m d m_X12_laysAside 233 [(0, .ref 100), (1, .int x1), (2, .int x2)] [.ref 100, .int x1, .ref 152] (z_s (z_s (z_s S 148 x1.toInt.toNat (S 99 60)) 149 x1.toInt.toNat (S 99 61)) 150 x1.toInt.toNat (S 99 62)) R _
        refine u_getE (v := S 99 2) rfl v_tyM rfl ((z_sn (fun h => absurd h.1 (by decide))).trans ((z_sn (fun h => absurd h.1 (by decide))).trans (z_sn (fun h => absurd h.1 (by decide))))) ?_
        show u_P L xs m d m_X12_laysAside 236 [(0, .ref 100), (1, .int x1), (2, .int x2)] [.int (S 99 2), .int x1, .ref 152] (z_s (z_s (z_s S 148 x1.toInt.toNat (S 99 60)) 149 x1.toInt.toNat (S 99 61)) 150 x1.toInt.toNat (S 99 62)) R _
        refine u_iast rfl rfl (fun b51 b52 => ?_)
        have hD := hD b51 b52
        show u_P L xs m d m_X12_laysAside 237 [(0, .ref 100), (1, .int x1), (2, .int x2)] [] (z_s (z_s (z_s (z_s S 148 x1.toInt.toNat (S 99 60)) 149 x1.toInt.toNat (S 99 61)) 150 x1.toInt.toNat (S 99 62)) 151 x1.toInt.toNat (S 99 2)) R _
        exact u_ret rfl rfl ⟨rfl, rfl, hD⟩
      · have hD := hD.2 h1
        show u_P L xs m d m_X12_laysAside 174 [(0, .ref 100), (1, .int x1), (2, .int x2)] [] S R _
        refine u_st rfl (fun _ => rfl) ?_
        show u_P L xs m d m_X12_laysAside 175 [(0, .ref 100), (1, .int x1), (2, .int x2)] [.ref 100] S R _
        refine u_getr rfl v_tyM rfl ?_
        refine u_st rfl (fun _ => rfl) ?_
        refine u_st rfl (fun _ => rfl) ?_
        refine u_st rfl (fun _ => rfl) ?_
        refine u_st rfl (fun _ => rfl) ?_
        refine u_st rfl (fun _ => rfl) ?_
        refine u_st rfl (fun _ => rfl) ?_
        show u_P L xs m d m_X12_laysAside 185 [(0, .ref 100), (1, .int x1), (2, .int x2)] [.ref 100, .int (((Int32.ofInt 6) * x1) + x2), .ref 148] S R _
        refine u_getr rfl v_tyM rfl ?_
        refine u_st rfl (fun _ => rfl) ?_
        show u_P L xs m d m_X12_laysAside 189 [(0, .ref 100), (1, .int x1), (2, .int x2)] [.int x2, .ref 129, .int (((Int32.ofInt 6) * x1) + x2), .ref 148] S R _
        refine u_ialdE (v := S 128 x2.toInt.toNat) rfl rfl rfl (fun b61 b62 => ?_)
        have hD := hD b61 b62
        show u_P L xs m d m_X12_laysAside 190 [(0, .ref 100), (1, .int x1), (2, .int x2)] [.int (S 128 x2.toInt.toNat), .int (((Int32.ofInt 6) * x1) + x2), .ref 148] S R _
        refine u_iast rfl rfl (fun b71 b72 => ?_)
        have hD := hD b71 b72
        show u_P L xs m d m_X12_laysAside 191 [(0, .ref 100), (1, .int x1), (2, .int x2)] [] (z_s S 147 ((((Int32.ofInt 6) * x1) + x2).toInt.toNat) (S 128 x2.toInt.toNat)) R _
        refine u_st rfl (fun _ => rfl) ?_
        refine u_st rfl (fun _ => rfl) ?_
        refine u_lc (b := [(0, .ref 100), (1, .int x1), (2, .int (x2 + (Int32.ofInt 1)))]) (show ([2, 0, 1] : List Nat).Nodup by decide) (show ([0, 1, 2] : List Nat).Nodup by decide) (fun i => match i with | 0 => rfl | 1 => rfl | 2 => rfl | _ + 3 => rfl) ?_
        exact (ih m hm).2.2.2.2.1 d x1 (x2 + (Int32.ofInt 1)) (z_s S 147 ((((Int32.ofInt 6) * x1) + x2).toInt.toNat) (S 128 x2.toInt.toNat)) hD
    · intro d j3 x1 x2 S hD
      have hD := k168 x1 x2 S hD
      unfold D_X12_laysAside_168 at hD
      show u_P L xs n d m_X12_laysAside 168 [(0, .ref 100), (1, .int x1), (2, .int x2), (3, .int j3)] [] S R _
      refine u_st1 rfl (fun _ => rfl) (fun m hm => ?_)
      refine u_st rfl (fun _ => rfl) ?_
      show u_P L xs m d m_X12_laysAside 171 [(0, .ref 100), (1, .int x1), (2, .int x2), (3, .int j3)] [.int (Int32.ofInt 6), .int x2] S R _
      refine u_ic_ge rfl (fun h1 => ?_) (fun h1 => ?_)
      · have hD := hD.1 h1
        show u_P L xs m d m_X12_laysAside 197 [(0, .ref 100), (1, .int x1), (2, .int x2), (3, .int j3)] [] S R _
        refine u_st rfl (fun _ => rfl) ?_
        show u_P L xs m d m_X12_laysAside 198 [(0, .ref 100), (1, .int x1), (2, .int x2), (3, .int j3)] [.ref 100] S R _
        refine u_getr rfl v_tyM rfl ?_
        refine u_st rfl (fun _ => rfl) ?_
        refine u_st rfl (fun _ => rfl) ?_
        show u_P L xs m d m_X12_laysAside 203 [(0, .ref 100), (1, .int x1), (2, .int x2), (3, .int j3)] [.ref 100, .int x1, .ref 149] S R _
        refine u_getE (v := S 99 60) rfl v_tyM rfl rfl ?_
        show u_P L xs m d m_X12_laysAside 206 [(0, .ref 100), (1, .int x1), (2, .int x2), (3, .int j3)] [.int (S 99 60), .int x1, .ref 149] S R _
        refine u_iast rfl rfl (fun b21 b22 => ?_)
        have hD := hD b21 b22
        show u_P L xs m d m_X12_laysAside 207 [(0, .ref 100), (1, .int x1), (2, .int x2), (3, .int j3)] [] (z_s S 148 x1.toInt.toNat (S 99 60)) R _
        refine u_st rfl (fun _ => rfl) ?_
        show u_P L xs m d m_X12_laysAside 208 [(0, .ref 100), (1, .int x1), (2, .int x2), (3, .int j3)] [.ref 100] (z_s S 148 x1.toInt.toNat (S 99 60)) R _
        refine u_getr rfl v_tyM rfl ?_
        refine u_st rfl (fun _ => rfl) ?_
        refine u_st rfl (fun _ => rfl) ?_
        show u_P L xs m d m_X12_laysAside 213 [(0, .ref 100), (1, .int x1), (2, .int x2), (3, .int j3)] [.ref 100, .int x1, .ref 150] (z_s S 148 x1.toInt.toNat (S 99 60)) R _
        refine u_getE (v := S 99 61) rfl v_tyM rfl (z_sn (fun h => absurd h.1 (by decide))) ?_
        show u_P L xs m d m_X12_laysAside 216 [(0, .ref 100), (1, .int x1), (2, .int x2), (3, .int j3)] [.int (S 99 61), .int x1, .ref 150] (z_s S 148 x1.toInt.toNat (S 99 60)) R _
        refine u_iast rfl rfl (fun b31 b32 => ?_)
        have hD := hD b31 b32
        show u_P L xs m d m_X12_laysAside 217 [(0, .ref 100), (1, .int x1), (2, .int x2), (3, .int j3)] [] (z_s (z_s S 148 x1.toInt.toNat (S 99 60)) 149 x1.toInt.toNat (S 99 61)) R _
        refine u_st rfl (fun _ => rfl) ?_
        show u_P L xs m d m_X12_laysAside 218 [(0, .ref 100), (1, .int x1), (2, .int x2), (3, .int j3)] [.ref 100] (z_s (z_s S 148 x1.toInt.toNat (S 99 60)) 149 x1.toInt.toNat (S 99 61)) R _
        refine u_getr rfl v_tyM rfl ?_
        refine u_st rfl (fun _ => rfl) ?_
        refine u_st rfl (fun _ => rfl) ?_
        show u_P L xs m d m_X12_laysAside 223 [(0, .ref 100), (1, .int x1), (2, .int x2), (3, .int j3)] [.ref 100, .int x1, .ref 151] (z_s (z_s S 148 x1.toInt.toNat (S 99 60)) 149 x1.toInt.toNat (S 99 61)) R _
        refine u_getE (v := S 99 62) rfl v_tyM rfl ((z_sn (fun h => absurd h.1 (by decide))).trans (z_sn (fun h => absurd h.1 (by decide)))) ?_
        show u_P L xs m d m_X12_laysAside 226 [(0, .ref 100), (1, .int x1), (2, .int x2), (3, .int j3)] [.int (S 99 62), .int x1, .ref 151] (z_s (z_s S 148 x1.toInt.toNat (S 99 60)) 149 x1.toInt.toNat (S 99 61)) R _
        refine u_iast rfl rfl (fun b41 b42 => ?_)
        have hD := hD b41 b42
        show u_P L xs m d m_X12_laysAside 227 [(0, .ref 100), (1, .int x1), (2, .int x2), (3, .int j3)] [] (z_s (z_s (z_s S 148 x1.toInt.toNat (S 99 60)) 149 x1.toInt.toNat (S 99 61)) 150 x1.toInt.toNat (S 99 62)) R _
        refine u_st rfl (fun _ => rfl) ?_
        show u_P L xs m d m_X12_laysAside 228 [(0, .ref 100), (1, .int x1), (2, .int x2), (3, .int j3)] [.ref 100] (z_s (z_s (z_s S 148 x1.toInt.toNat (S 99 60)) 149 x1.toInt.toNat (S 99 61)) 150 x1.toInt.toNat (S 99 62)) R _
        refine u_getr rfl v_tyM rfl ?_
        refine u_st rfl (fun _ => rfl) ?_
        refine u_st rfl (fun _ => rfl) ?_
        show u_P L xs m d m_X12_laysAside 233 [(0, .ref 100), (1, .int x1), (2, .int x2), (3, .int j3)] [.ref 100, .int x1, .ref 152] (z_s (z_s (z_s S 148 x1.toInt.toNat (S 99 60)) 149 x1.toInt.toNat (S 99 61)) 150 x1.toInt.toNat (S 99 62)) R _
        refine u_getE (v := S 99 2) rfl v_tyM rfl ((z_sn (fun h => absurd h.1 (by decide))).trans ((z_sn (fun h => absurd h.1 (by decide))).trans (z_sn (fun h => absurd h.1 (by decide))))) ?_
        show u_P L xs m d m_X12_laysAside 236 [(0, .ref 100), (1, .int x1), (2, .int x2), (3, .int j3)] [.int (S 99 2), .int x1, .ref 152] (z_s (z_s (z_s S 148 x1.toInt.toNat (S 99 60)) 149 x1.toInt.toNat (S 99 61)) 150 x1.toInt.toNat (S 99 62)) R _
        refine u_iast rfl rfl (fun b51 b52 => ?_)
        have hD := hD b51 b52
        show u_P L xs m d m_X12_laysAside 237 [(0, .ref 100), (1, .int x1), (2, .int x2), (3, .int j3)] [] (z_s (z_s (z_s (z_s S 148 x1.toInt.toNat (S 99 60)) 149 x1.toInt.toNat (S 99 61)) 150 x1.toInt.toNat (S 99 62)) 151 x1.toInt.toNat (S 99 2)) R _
        exact u_ret rfl rfl ⟨rfl, rfl, hD⟩
      · have hD := hD.2 h1
        show u_P L xs m d m_X12_laysAside 174 [(0, .ref 100), (1, .int x1), (2, .int x2), (3, .int j3)] [] S R _
        refine u_st rfl (fun _ => rfl) ?_
        show u_P L xs m d m_X12_laysAside 175 [(0, .ref 100), (1, .int x1), (2, .int x2), (3, .int j3)] [.ref 100] S R _
        refine u_getr rfl v_tyM rfl ?_
        refine u_st rfl (fun _ => rfl) ?_
        refine u_st rfl (fun _ => rfl) ?_
        refine u_st rfl (fun _ => rfl) ?_
        refine u_st rfl (fun _ => rfl) ?_
        refine u_st rfl (fun _ => rfl) ?_
        refine u_st rfl (fun _ => rfl) ?_
        show u_P L xs m d m_X12_laysAside 185 [(0, .ref 100), (1, .int x1), (2, .int x2), (3, .int j3)] [.ref 100, .int (((Int32.ofInt 6) * x1) + x2), .ref 148] S R _
        refine u_getr rfl v_tyM rfl ?_
        refine u_st rfl (fun _ => rfl) ?_
        show u_P L xs m d m_X12_laysAside 189 [(0, .ref 100), (1, .int x1), (2, .int x2), (3, .int j3)] [.int x2, .ref 129, .int (((Int32.ofInt 6) * x1) + x2), .ref 148] S R _
        refine u_ialdE (v := S 128 x2.toInt.toNat) rfl rfl rfl (fun b61 b62 => ?_)
        have hD := hD b61 b62
        show u_P L xs m d m_X12_laysAside 190 [(0, .ref 100), (1, .int x1), (2, .int x2), (3, .int j3)] [.int (S 128 x2.toInt.toNat), .int (((Int32.ofInt 6) * x1) + x2), .ref 148] S R _
        refine u_iast rfl rfl (fun b71 b72 => ?_)
        have hD := hD b71 b72
        show u_P L xs m d m_X12_laysAside 191 [(0, .ref 100), (1, .int x1), (2, .int x2), (3, .int j3)] [] (z_s S 147 ((((Int32.ofInt 6) * x1) + x2).toInt.toNat) (S 128 x2.toInt.toNat)) R _
        refine u_st rfl (fun _ => rfl) ?_
        refine u_st rfl (fun _ => rfl) ?_
        refine u_lc (b := [(0, .ref 100), (1, .int x1), (2, .int (x2 + (Int32.ofInt 1))), (3, .int j3)]) (show ([2, 0, 1, 3] : List Nat).Nodup by decide) (show ([0, 1, 2, 3] : List Nat).Nodup by decide) (fun i => match i with | 0 => rfl | 1 => rfl | 2 => rfl | 3 => rfl | _ + 4 => rfl) ?_
        exact (ih m hm).2.2.2.2.2 d j3 x1 (x2 + (Int32.ofInt 1)) (z_s S 147 ((((Int32.ofInt 6) * x1) + x2).toInt.toNat) (S 128 x2.toInt.toNat)) hD
set_option maxRecDepth 4000 in
theorem w_X12_laysAside (L : Nat) (xs : Nat → Int32) {R : v_Rf} (a : Int32) (H2 : Int32 → Int32 → v_Sf → Prop) (H107 : Int32 → Int32 → v_Sf → Prop) (H168 : Int32 → Int32 → v_Sf → Prop) (K : v_Sf → Prop) (k2 : ∀ (x1 : Int32) (x2 : Int32) (S : v_Sf), H2 x1 x2 S → D_X12_laysAside_2 H2 H107 H168 K x1 x2 S) (k107 : ∀ (x1 : Int32) (x2 : Int32) (S : v_Sf), H107 x1 x2 S → D_X12_laysAside_107 H2 H107 H168 K x1 x2 S) (k168 : ∀ (x1 : Int32) (x2 : Int32) (S : v_Sf), H168 x1 x2 S → D_X12_laysAside_168 H2 H107 H168 K x1 x2 S) (n d : Nat) (S : v_Sf) (hD : D_X12_laysAside a H2 H107 H168 K S) : u_P L xs n d m_X12_laysAside 0 (lv_args 0 [.ref 100, .int a]) [] S R (z_V R K) := by
  unfold D_X12_laysAside at hD
  show u_P L xs n d m_X12_laysAside 0 [(0, .ref 100), (1, .int a)] [] S R _
  refine u_st rfl (fun _ => rfl) ?_
  refine u_st rfl (fun _ => rfl) ?_
  refine u_lc (b := [(0, .ref 100), (1, .int a), (2, .int (Int32.ofInt 0))]) (show ([2, 0, 1] : List Nat).Nodup by decide) (show ([0, 1, 2] : List Nat).Nodup by decide) (fun i => match i with | 0 => rfl | 1 => rfl | 2 => rfl | _ + 3 => rfl) ?_
  exact (hd_X12_laysAside L xs a H2 H107 H168 K k2 k107 k168 n).1 d a (Int32.ofInt 0) S hD
noncomputable def r_X12_laysAside_168 (x1 : Int32) : Nat → Nat → v_Sf → v_Sf
  | 0, k168, S => z_s (z_s (z_s (z_s S 148 x1.toInt.toNat (S 99 60)) 149 x1.toInt.toNat (S 99 61)) 150 x1.toInt.toNat (S 99 62)) 151 x1.toInt.toNat (S 99 2)
  | r + 1, k168, S => r_X12_laysAside_168 x1 r (k168 + 1) (z_s S 147 ((((Int32.ofInt 6) * x1) + (z_i k168)).toInt.toNat) (S 128 (z_i k168).toInt.toNat))
noncomputable def r_X12_laysAside_107 (x1 : Int32) : Nat → Nat → v_Sf → v_Sf
  | 0, k107, S => r_X12_laysAside_168 x1 (6 - 0) 0 S
  | r + 1, k107, S => r_X12_laysAside_107 x1 r (k107 + 1) (z_s (z_s (z_s S 144 ((((Int32.ofInt 5) * x1) + (z_i k107)).toInt.toNat) (u_nar 2 (S 129 (z_i k107).toInt.toNat))) 145 ((((Int32.ofInt 5) * x1) + (z_i k107)).toInt.toNat) (S 130 (z_i k107).toInt.toNat)) 146 ((((Int32.ofInt 5) * x1) + (z_i k107)).toInt.toNat) (S 131 (z_i k107).toInt.toNat))
noncomputable def r_X12_laysAside_2 (x1 : Int32) : Nat → Nat → v_Sf → v_Sf
  | 0, k2, S => r_X12_laysAside_107 x1 (5 - 0) 0 S
  | r + 1, k2, S => r_X12_laysAside_2 x1 r (k2 + 1) (z_s (z_s (z_s (z_s (z_s (z_s (z_s S 137 ((((Int32.ofInt 12) * x1) + (z_i k2)).toInt.toNat) (u_nar 2 (S 116 (z_i k2).toInt.toNat))) 138 ((((Int32.ofInt 12) * x1) + (z_i k2)).toInt.toNat) (S 117 (z_i k2).toInt.toNat)) 139 ((((Int32.ofInt 12) * x1) + (z_i k2)).toInt.toNat) (S 118 (z_i k2).toInt.toNat)) 140 ((((Int32.ofInt 12) * x1) + (z_i k2)).toInt.toNat) (S 119 (z_i k2).toInt.toNat)) 141 ((((Int32.ofInt 12) * x1) + (z_i k2)).toInt.toNat) (S 120 (z_i k2).toInt.toNat)) 142 ((((Int32.ofInt 12) * x1) + (z_i k2)).toInt.toNat) (S 121 (z_i k2).toInt.toNat)) 143 ((((Int32.ofInt 12) * x1) + (z_i k2)).toInt.toNat) (S 122 (z_i k2).toInt.toNat))
noncomputable def F_X12_laysAside (a : Int32) (S : v_Sf) : v_Sf := r_X12_laysAside_2 a (12 - 0) 0 S
noncomputable def g_X12_laysAside (a : Int32) (S : v_Sf) : v_Sf := F_X12_laysAside a S
theorem c_X12_laysAside (L : Nat) (xs : Nat → Int32) (n d : Nat) (a : Int32) (S : v_Sf) (R : v_Rf) : u_P L xs n d m_X12_laysAside 0 (lv_args 0 [.ref 100, .int a]) [] S R (z_V R (fun S1 => g_X12_laysAside a S = S1)) := by
  refine w_X12_laysAside L xs a (fun y1 y2 T => ∃ (k2 : Nat), k2 ≤ 12 ∧ z_i k2 = y2 ∧ a = y1 ∧ r_X12_laysAside_2 a (12 - k2) k2 T = F_X12_laysAside a S) (fun y1 y2 T => ∃ (k107 : Nat), k107 ≤ 5 ∧ z_i k107 = y2 ∧ a = y1 ∧ r_X12_laysAside_107 a (5 - k107) k107 T = F_X12_laysAside a S) (fun y1 y2 T => ∃ (k168 : Nat), k168 ≤ 6 ∧ z_i k168 = y2 ∧ a = y1 ∧ r_X12_laysAside_168 a (6 - k168) k168 T = F_X12_laysAside a S) (fun S1 => g_X12_laysAside a S = S1) ?_ ?_ ?_ n d S ?_
  · rintro _ _ S1 ⟨k2, hkk, rfl, rfl, e⟩
    unfold D_X12_laysAside_2
    rcases Nat.lt_or_ge k2 (12) with hk | hk
    · rw [show 12 - k2 = (12 - (k2 + 1)) + 1 by omega, r_X12_laysAside_2] at e
      refine ⟨fun q1 => ?_, fun q1 => ?_⟩
      · exact absurd hk (Nat.not_lt.mpr (z_leB2 (B := 12) q1 (by decide) (by omega)))
      · intro _ _
        intro _ _
        intro _ _
        intro _ _
        intro _ _
        intro _ _
        intro _ _
        intro _ _
        intro _ _
        intro _ _
        intro _ _
        intro _ _
        intro _ _
        intro _ _
        exact ⟨(k2 + 1), by omega, (z_i1 k2).symm, rfl, e⟩
    · rw [show 12 - k2 = 0 by omega, r_X12_laysAside_2] at e
      refine ⟨fun q2 => ?_, fun q2 => ?_⟩
      · exact ⟨0, by omega, rfl, rfl, e⟩
      · exact absurd hk (Nat.not_le.mpr (z_ltB2 (B := 12) q2 (by decide) (by omega)))
  · rintro _ _ S1 ⟨k107, hkk, rfl, rfl, e⟩
    unfold D_X12_laysAside_107
    rcases Nat.lt_or_ge k107 (5) with hk | hk
    · rw [show 5 - k107 = (5 - (k107 + 1)) + 1 by omega, r_X12_laysAside_107] at e
      refine ⟨fun q3 => ?_, fun q3 => ?_⟩
      · exact absurd hk (Nat.not_lt.mpr (z_leB2 (B := 5) q3 (by decide) (by omega)))
      · intro _ _
        intro _ _
        intro _ _
        intro _ _
        intro _ _
        intro _ _
        exact ⟨(k107 + 1), by omega, (z_i1 k107).symm, rfl, e⟩
    · rw [show 5 - k107 = 0 by omega, r_X12_laysAside_107] at e
      refine ⟨fun q4 => ?_, fun q4 => ?_⟩
      · exact ⟨0, by omega, rfl, rfl, e⟩
      · exact absurd hk (Nat.not_le.mpr (z_ltB2 (B := 5) q4 (by decide) (by omega)))
  · rintro _ _ S1 ⟨k168, hkk, rfl, rfl, e⟩
    unfold D_X12_laysAside_168
    rcases Nat.lt_or_ge k168 (6) with hk | hk
    · rw [show 6 - k168 = (6 - (k168 + 1)) + 1 by omega, r_X12_laysAside_168] at e
      refine ⟨fun q5 => ?_, fun q5 => ?_⟩
      · exact absurd hk (Nat.not_lt.mpr (z_leB2 (B := 6) q5 (by decide) (by omega)))
      · intro _ _
        intro _ _
        exact ⟨(k168 + 1), by omega, (z_i1 k168).symm, rfl, e⟩
    · rw [show 6 - k168 = 0 by omega, r_X12_laysAside_168] at e
      refine ⟨fun q6 => ?_, fun q6 => ?_⟩
      · intro _ _
        intro _ _
        intro _ _
        intro _ _
        exact e.symm
      · exact absurd hk (Nat.not_le.mpr (z_ltB2 (B := 6) q6 (by decide) (by omega)))
  · unfold D_X12_laysAside
    have e : r_X12_laysAside_2 a (12 - 0) 0 S = F_X12_laysAside a S := by rw [F_X12_laysAside]
    exact ⟨0, by omega, rfl, rfl, e⟩
noncomputable abbrev m_X12_bringsBack : g_M := (g_cn 12, yX12_bringsBack, cX12_bringsBack, 4, none, g_look2 ttX12_bringsBack)
set_option maxRecDepth 20000 in
theorem mt_X12_bringsBack : g_mt 240 = some m_X12_bringsBack := rfl
noncomputable def D_X12_bringsBack_2  (H2 : Int32 → Int32 → v_Sf → Prop) (H107 : Int32 → Int32 → v_Sf → Prop) (H168 : Int32 → Int32 → v_Sf → Prop) (K : v_Sf → Prop) (x1 : Int32) (x2 : Int32) (S : v_Sf) : Prop := (((Int32.ofInt 12) ≤ x2 → H107 x1 (Int32.ofInt 0) S) ∧ (¬ ((Int32.ofInt 12) ≤ x2) → (0 ≤ (((Int32.ofInt 12) * x1) + x2).toInt → (((Int32.ofInt 12) * x1) + x2).toInt < 24 → (0 ≤ x2.toInt → x2.toInt < 12 → (0 ≤ (((Int32.ofInt 12) * x1) + x2).toInt → (((Int32.ofInt 12) * x1) + x2).toInt < 24 → (0 ≤ x2.toInt → x2.toInt < 12 → (0 ≤ (((Int32.ofInt 12) * x1) + x2).toInt → (((Int32.ofInt 12) * x1) + x2).toInt < 24 → (0 ≤ x2.toInt → x2.toInt < 12 → (0 ≤ (((Int32.ofInt 12) * x1) + x2).toInt → (((Int32.ofInt 12) * x1) + x2).toInt < 24 → (0 ≤ x2.toInt → x2.toInt < 12 → (0 ≤ (((Int32.ofInt 12) * x1) + x2).toInt → (((Int32.ofInt 12) * x1) + x2).toInt < 24 → (0 ≤ x2.toInt → x2.toInt < 12 → (0 ≤ (((Int32.ofInt 12) * x1) + x2).toInt → (((Int32.ofInt 12) * x1) + x2).toInt < 24 → (0 ≤ x2.toInt → x2.toInt < 12 → (0 ≤ (((Int32.ofInt 12) * x1) + x2).toInt → (((Int32.ofInt 12) * x1) + x2).toInt < 24 → (0 ≤ x2.toInt → x2.toInt < 12 → H2 x1 (x2 + (Int32.ofInt 1)) (z_s (z_s (z_s (z_s (z_s (z_s (z_s S 116 x2.toInt.toNat (u_nar 2 (S 137 ((((Int32.ofInt 12) * x1) + x2).toInt.toNat)))) 117 x2.toInt.toNat (S 138 ((((Int32.ofInt 12) * x1) + x2).toInt.toNat))) 118 x2.toInt.toNat (S 139 ((((Int32.ofInt 12) * x1) + x2).toInt.toNat))) 119 x2.toInt.toNat (S 140 ((((Int32.ofInt 12) * x1) + x2).toInt.toNat))) 120 x2.toInt.toNat (S 141 ((((Int32.ofInt 12) * x1) + x2).toInt.toNat))) 121 x2.toInt.toNat (S 142 ((((Int32.ofInt 12) * x1) + x2).toInt.toNat))) 122 x2.toInt.toNat (S 143 ((((Int32.ofInt 12) * x1) + x2).toInt.toNat)))))))))))))))))))
noncomputable def D_X12_bringsBack_107  (H2 : Int32 → Int32 → v_Sf → Prop) (H107 : Int32 → Int32 → v_Sf → Prop) (H168 : Int32 → Int32 → v_Sf → Prop) (K : v_Sf → Prop) (x1 : Int32) (x2 : Int32) (S : v_Sf) : Prop := (((Int32.ofInt 5) ≤ x2 → H168 x1 (Int32.ofInt 0) S) ∧ (¬ ((Int32.ofInt 5) ≤ x2) → (0 ≤ (((Int32.ofInt 5) * x1) + x2).toInt → (((Int32.ofInt 5) * x1) + x2).toInt < 10 → (0 ≤ x2.toInt → x2.toInt < 5 → (0 ≤ (((Int32.ofInt 5) * x1) + x2).toInt → (((Int32.ofInt 5) * x1) + x2).toInt < 10 → (0 ≤ x2.toInt → x2.toInt < 5 → (0 ≤ (((Int32.ofInt 5) * x1) + x2).toInt → (((Int32.ofInt 5) * x1) + x2).toInt < 10 → (0 ≤ x2.toInt → x2.toInt < 5 → H107 x1 (x2 + (Int32.ofInt 1)) (z_s (z_s (z_s S 129 x2.toInt.toNat (u_nar 2 (S 144 ((((Int32.ofInt 5) * x1) + x2).toInt.toNat)))) 130 x2.toInt.toNat (S 145 ((((Int32.ofInt 5) * x1) + x2).toInt.toNat))) 131 x2.toInt.toNat (S 146 ((((Int32.ofInt 5) * x1) + x2).toInt.toNat)))))))))))
noncomputable def D_X12_bringsBack_168  (H2 : Int32 → Int32 → v_Sf → Prop) (H107 : Int32 → Int32 → v_Sf → Prop) (H168 : Int32 → Int32 → v_Sf → Prop) (K : v_Sf → Prop) (x1 : Int32) (x2 : Int32) (S : v_Sf) : Prop := (((Int32.ofInt 6) ≤ x2 → (0 ≤ x1.toInt → x1.toInt < 2 → (0 ≤ x1.toInt → x1.toInt < 2 → (0 ≤ x1.toInt → x1.toInt < 2 → (0 ≤ x1.toInt → x1.toInt < 2 → K (z_s (z_s (z_s (z_s S 99 60 (S 148 x1.toInt.toNat)) 99 61 (S 149 x1.toInt.toNat)) 99 62 (S 150 x1.toInt.toNat)) 99 2 (S 151 x1.toInt.toNat))))))) ∧ (¬ ((Int32.ofInt 6) ≤ x2) → (0 ≤ (((Int32.ofInt 6) * x1) + x2).toInt → (((Int32.ofInt 6) * x1) + x2).toInt < 12 → (0 ≤ x2.toInt → x2.toInt < 6 → (((S 127 x2.toInt.toNat) ≤ (S 147 ((((Int32.ofInt 6) * x1) + x2).toInt.toNat)) → (0 ≤ x2.toInt → x2.toInt < 6 → H168 x1 (x2 + (Int32.ofInt 1)) (z_s S 128 x2.toInt.toNat (Int32.ofInt 0)))) ∧ (¬ ((S 127 x2.toInt.toNat) ≤ (S 147 ((((Int32.ofInt 6) * x1) + x2).toInt.toNat))) → (0 ≤ (((Int32.ofInt 6) * x1) + x2).toInt → (((Int32.ofInt 6) * x1) + x2).toInt < 12 → (0 ≤ x2.toInt → x2.toInt < 6 → H168 x1 (x2 + (Int32.ofInt 1)) (z_s S 128 x2.toInt.toNat (S 147 ((((Int32.ofInt 6) * x1) + x2).toInt.toNat)))))))))))
noncomputable def D_X12_bringsBack (a : Int32) (H2 : Int32 → Int32 → v_Sf → Prop) (H107 : Int32 → Int32 → v_Sf → Prop) (H168 : Int32 → Int32 → v_Sf → Prop) (K : v_Sf → Prop) (S : v_Sf) : Prop := H2 a (Int32.ofInt 0) S
set_option maxRecDepth 4000 in
theorem hd_X12_bringsBack (L : Nat) (xs : Nat → Int32) {R : v_Rf} (a : Int32) (H2 : Int32 → Int32 → v_Sf → Prop) (H107 : Int32 → Int32 → v_Sf → Prop) (H168 : Int32 → Int32 → v_Sf → Prop) (K : v_Sf → Prop) (k2 : ∀ (x1 : Int32) (x2 : Int32) (S : v_Sf), H2 x1 x2 S → D_X12_bringsBack_2 H2 H107 H168 K x1 x2 S) (k107 : ∀ (x1 : Int32) (x2 : Int32) (S : v_Sf), H107 x1 x2 S → D_X12_bringsBack_107 H2 H107 H168 K x1 x2 S) (k168 : ∀ (x1 : Int32) (x2 : Int32) (S : v_Sf), H168 x1 x2 S → D_X12_bringsBack_168 H2 H107 H168 K x1 x2 S) : ∀ n, (∀ (d : Nat) (x1 : Int32) (x2 : Int32) (S : v_Sf), H2 x1 x2 S → u_P L xs n d m_X12_bringsBack 2 [(0, .ref 100), (1, .int x1), (2, .int x2)] [] S R (z_V R K)) ∧ (∀ (d : Nat) (j3 : Int32) (x1 : Int32) (x2 : Int32) (S : v_Sf), H2 x1 x2 S → u_P L xs n d m_X12_bringsBack 2 [(0, .ref 100), (1, .int x1), (2, .int x2), (3, .int j3)] [] S R (z_V R K)) ∧ (∀ (d : Nat) (x1 : Int32) (x2 : Int32) (S : v_Sf), H107 x1 x2 S → u_P L xs n d m_X12_bringsBack 107 [(0, .ref 100), (1, .int x1), (2, .int x2)] [] S R (z_V R K)) ∧ (∀ (d : Nat) (j3 : Int32) (x1 : Int32) (x2 : Int32) (S : v_Sf), H107 x1 x2 S → u_P L xs n d m_X12_bringsBack 107 [(0, .ref 100), (1, .int x1), (2, .int x2), (3, .int j3)] [] S R (z_V R K)) ∧ (∀ (d : Nat) (x1 : Int32) (x2 : Int32) (S : v_Sf), H168 x1 x2 S → u_P L xs n d m_X12_bringsBack 168 [(0, .ref 100), (1, .int x1), (2, .int x2)] [] S R (z_V R K)) ∧ (∀ (d : Nat) (j3 : Int32) (x1 : Int32) (x2 : Int32) (S : v_Sf), H168 x1 x2 S → u_P L xs n d m_X12_bringsBack 168 [(0, .ref 100), (1, .int x1), (2, .int x2), (3, .int j3)] [] S R (z_V R K)) := by
  intro n
  induction n using Nat.strongRecOn with
  | ind n ih =>
    refine ⟨?_, ?_, ?_, ?_, ?_, ?_⟩
    · intro d x1 x2 S hD
      have hD := k2 x1 x2 S hD
      unfold D_X12_bringsBack_2 at hD
      show u_P L xs n d m_X12_bringsBack 2 [(0, .ref 100), (1, .int x1), (2, .int x2)] [] S R _
      refine u_st1 rfl (fun _ => rfl) (fun m hm => ?_)
      refine u_st rfl (fun _ => rfl) ?_
      show u_P L xs m d m_X12_bringsBack 5 [(0, .ref 100), (1, .int x1), (2, .int x2)] [.int (Int32.ofInt 12), .int x2] S R _
      refine u_ic_ge rfl (fun h1 => ?_) (fun h1 => ?_)
      · have hD := hD.1 h1
        show u_P L xs m d m_X12_bringsBack 105 [(0, .ref 100), (1, .int x1), (2, .int x2)] [] S R _
        refine u_st rfl (fun _ => rfl) ?_
        refine u_st rfl (fun _ => rfl) ?_
        refine u_lc (b := [(0, .ref 100), (1, .int x1), (2, .int (Int32.ofInt 0))]) (show ([2, 0, 1] : List Nat).Nodup by decide) (show ([0, 1, 2] : List Nat).Nodup by decide) (fun i => match i with | 0 => rfl | 1 => rfl | 2 => rfl | _ + 3 => rfl) ?_
        exact (ih m hm).2.2.1 d x1 (Int32.ofInt 0) S hD
      · have hD := hD.2 h1
        show u_P L xs m d m_X12_bringsBack 8 [(0, .ref 100), (1, .int x1), (2, .int x2)] [] S R _
        refine u_st rfl (fun _ => rfl) ?_
        refine u_st rfl (fun _ => rfl) ?_
        refine u_st rfl (fun _ => rfl) ?_
        refine u_st rfl (fun _ => rfl) ?_
        refine u_st rfl (fun _ => rfl) ?_
        refine u_st rfl (fun _ => rfl) ?_
        refine u_st rfl (fun _ => rfl) ?_
        show u_P L xs m d m_X12_bringsBack 16 [(3, .int (((Int32.ofInt 12) * x1) + x2)), (0, .ref 100), (1, .int x1), (2, .int x2)] [.ref 100] S R _
        refine u_getr rfl v_tyM rfl ?_
        refine u_st rfl (fun _ => rfl) ?_
        refine u_st rfl (fun _ => rfl) ?_
        show u_P L xs m d m_X12_bringsBack 21 [(3, .int (((Int32.ofInt 12) * x1) + x2)), (0, .ref 100), (1, .int x1), (2, .int x2)] [.ref 100, .int x2, .ref 117] S R _
        refine u_getr rfl v_tyM rfl ?_
        refine u_st rfl (fun _ => rfl) ?_
        show u_P L xs m d m_X12_bringsBack 25 [(3, .int (((Int32.ofInt 12) * x1) + x2)), (0, .ref 100), (1, .int x1), (2, .int x2)] [.int (((Int32.ofInt 12) * x1) + x2), .ref 138, .int x2, .ref 117] S R _
        refine u_baldE (v := S 137 ((((Int32.ofInt 12) * x1) + x2).toInt.toNat)) rfl rfl (by decide) rfl (fun b21 b22 => ?_)
        have hD := hD b21 b22
        show u_P L xs m d m_X12_bringsBack 26 [(3, .int (((Int32.ofInt 12) * x1) + x2)), (0, .ref 100), (1, .int x1), (2, .int x2)] [.int (S 137 ((((Int32.ofInt 12) * x1) + x2).toInt.toNat)), .int x2, .ref 117] S R _
        refine u_bast rfl rfl (by decide) (fun b31 b32 => ?_)
        have hD := hD b31 b32
        show u_P L xs m d m_X12_bringsBack 27 [(3, .int (((Int32.ofInt 12) * x1) + x2)), (0, .ref 100), (1, .int x1), (2, .int x2)] [] (z_s S 116 x2.toInt.toNat (u_nar 2 (S 137 ((((Int32.ofInt 12) * x1) + x2).toInt.toNat)))) R _
        refine u_st rfl (fun _ => rfl) ?_
        show u_P L xs m d m_X12_bringsBack 28 [(3, .int (((Int32.ofInt 12) * x1) + x2)), (0, .ref 100), (1, .int x1), (2, .int x2)] [.ref 100] (z_s S 116 x2.toInt.toNat (u_nar 2 (S 137 ((((Int32.ofInt 12) * x1) + x2).toInt.toNat)))) R _
        refine u_getr rfl v_tyM rfl ?_
        refine u_st rfl (fun _ => rfl) ?_
        refine u_st rfl (fun _ => rfl) ?_
        show u_P L xs m d m_X12_bringsBack 33 [(3, .int (((Int32.ofInt 12) * x1) + x2)), (0, .ref 100), (1, .int x1), (2, .int x2)] [.ref 100, .int x2, .ref 118] (z_s S 116 x2.toInt.toNat (u_nar 2 (S 137 ((((Int32.ofInt 12) * x1) + x2).toInt.toNat)))) R _
        refine u_getr rfl v_tyM rfl ?_
        refine u_st rfl (fun _ => rfl) ?_
        show u_P L xs m d m_X12_bringsBack 37 [(3, .int (((Int32.ofInt 12) * x1) + x2)), (0, .ref 100), (1, .int x1), (2, .int x2)] [.int (((Int32.ofInt 12) * x1) + x2), .ref 139, .int x2, .ref 118] (z_s S 116 x2.toInt.toNat (u_nar 2 (S 137 ((((Int32.ofInt 12) * x1) + x2).toInt.toNat)))) R _
        refine u_ialdE (v := S 138 ((((Int32.ofInt 12) * x1) + x2).toInt.toNat)) rfl rfl (z_sn (fun h => absurd h.1 (by decide))) (fun b41 b42 => ?_)
        have hD := hD b41 b42
        show u_P L xs m d m_X12_bringsBack 38 [(3, .int (((Int32.ofInt 12) * x1) + x2)), (0, .ref 100), (1, .int x1), (2, .int x2)] [.int (S 138 ((((Int32.ofInt 12) * x1) + x2).toInt.toNat)), .int x2, .ref 118] (z_s S 116 x2.toInt.toNat (u_nar 2 (S 137 ((((Int32.ofInt 12) * x1) + x2).toInt.toNat)))) R _
        refine u_iast rfl rfl (fun b51 b52 => ?_)
        have hD := hD b51 b52
        show u_P L xs m d m_X12_bringsBack 39 [(3, .int (((Int32.ofInt 12) * x1) + x2)), (0, .ref 100), (1, .int x1), (2, .int x2)] [] (z_s (z_s S 116 x2.toInt.toNat (u_nar 2 (S 137 ((((Int32.ofInt 12) * x1) + x2).toInt.toNat)))) 117 x2.toInt.toNat (S 138 ((((Int32.ofInt 12) * x1) + x2).toInt.toNat))) R _
        refine u_st rfl (fun _ => rfl) ?_
        show u_P L xs m d m_X12_bringsBack 40 [(3, .int (((Int32.ofInt 12) * x1) + x2)), (0, .ref 100), (1, .int x1), (2, .int x2)] [.ref 100] (z_s (z_s S 116 x2.toInt.toNat (u_nar 2 (S 137 ((((Int32.ofInt 12) * x1) + x2).toInt.toNat)))) 117 x2.toInt.toNat (S 138 ((((Int32.ofInt 12) * x1) + x2).toInt.toNat))) R _
        refine u_getr rfl v_tyM rfl ?_
        refine u_st rfl (fun _ => rfl) ?_
        refine u_st rfl (fun _ => rfl) ?_
        show u_P L xs m d m_X12_bringsBack 45 [(3, .int (((Int32.ofInt 12) * x1) + x2)), (0, .ref 100), (1, .int x1), (2, .int x2)] [.ref 100, .int x2, .ref 119] (z_s (z_s S 116 x2.toInt.toNat (u_nar 2 (S 137 ((((Int32.ofInt 12) * x1) + x2).toInt.toNat)))) 117 x2.toInt.toNat (S 138 ((((Int32.ofInt 12) * x1) + x2).toInt.toNat))) R _
        refine u_getr rfl v_tyM rfl ?_
        refine u_st rfl (fun _ => rfl) ?_
        show u_P L xs m d m_X12_bringsBack 49 [(3, .int (((Int32.ofInt 12) * x1) + x2)), (0, .ref 100), (1, .int x1), (2, .int x2)] [.int (((Int32.ofInt 12) * x1) + x2), .ref 140, .int x2, .ref 119] (z_s (z_s S 116 x2.toInt.toNat (u_nar 2 (S 137 ((((Int32.ofInt 12) * x1) + x2).toInt.toNat)))) 117 x2.toInt.toNat (S 138 ((((Int32.ofInt 12) * x1) + x2).toInt.toNat))) R _
        refine u_ialdE (v := S 139 ((((Int32.ofInt 12) * x1) + x2).toInt.toNat)) rfl rfl ((z_sn (fun h => absurd h.1 (by decide))).trans (z_sn (fun h => absurd h.1 (by decide)))) (fun b61 b62 => ?_)
        have hD := hD b61 b62
        show u_P L xs m d m_X12_bringsBack 50 [(3, .int (((Int32.ofInt 12) * x1) + x2)), (0, .ref 100), (1, .int x1), (2, .int x2)] [.int (S 139 ((((Int32.ofInt 12) * x1) + x2).toInt.toNat)), .int x2, .ref 119] (z_s (z_s S 116 x2.toInt.toNat (u_nar 2 (S 137 ((((Int32.ofInt 12) * x1) + x2).toInt.toNat)))) 117 x2.toInt.toNat (S 138 ((((Int32.ofInt 12) * x1) + x2).toInt.toNat))) R _
        refine u_iast rfl rfl (fun b71 b72 => ?_)
        have hD := hD b71 b72
        show u_P L xs m d m_X12_bringsBack 51 [(3, .int (((Int32.ofInt 12) * x1) + x2)), (0, .ref 100), (1, .int x1), (2, .int x2)] [] (z_s (z_s (z_s S 116 x2.toInt.toNat (u_nar 2 (S 137 ((((Int32.ofInt 12) * x1) + x2).toInt.toNat)))) 117 x2.toInt.toNat (S 138 ((((Int32.ofInt 12) * x1) + x2).toInt.toNat))) 118 x2.toInt.toNat (S 139 ((((Int32.ofInt 12) * x1) + x2).toInt.toNat))) R _
        refine u_st rfl (fun _ => rfl) ?_
        show u_P L xs m d m_X12_bringsBack 52 [(3, .int (((Int32.ofInt 12) * x1) + x2)), (0, .ref 100), (1, .int x1), (2, .int x2)] [.ref 100] (z_s (z_s (z_s S 116 x2.toInt.toNat (u_nar 2 (S 137 ((((Int32.ofInt 12) * x1) + x2).toInt.toNat)))) 117 x2.toInt.toNat (S 138 ((((Int32.ofInt 12) * x1) + x2).toInt.toNat))) 118 x2.toInt.toNat (S 139 ((((Int32.ofInt 12) * x1) + x2).toInt.toNat))) R _
        refine u_getr rfl v_tyM rfl ?_
        refine u_st rfl (fun _ => rfl) ?_
        refine u_st rfl (fun _ => rfl) ?_
        show u_P L xs m d m_X12_bringsBack 57 [(3, .int (((Int32.ofInt 12) * x1) + x2)), (0, .ref 100), (1, .int x1), (2, .int x2)] [.ref 100, .int x2, .ref 120] (z_s (z_s (z_s S 116 x2.toInt.toNat (u_nar 2 (S 137 ((((Int32.ofInt 12) * x1) + x2).toInt.toNat)))) 117 x2.toInt.toNat (S 138 ((((Int32.ofInt 12) * x1) + x2).toInt.toNat))) 118 x2.toInt.toNat (S 139 ((((Int32.ofInt 12) * x1) + x2).toInt.toNat))) R _
        refine u_getr rfl v_tyM rfl ?_
        refine u_st rfl (fun _ => rfl) ?_
        show u_P L xs m d m_X12_bringsBack 61 [(3, .int (((Int32.ofInt 12) * x1) + x2)), (0, .ref 100), (1, .int x1), (2, .int x2)] [.int (((Int32.ofInt 12) * x1) + x2), .ref 141, .int x2, .ref 120] (z_s (z_s (z_s S 116 x2.toInt.toNat (u_nar 2 (S 137 ((((Int32.ofInt 12) * x1) + x2).toInt.toNat)))) 117 x2.toInt.toNat (S 138 ((((Int32.ofInt 12) * x1) + x2).toInt.toNat))) 118 x2.toInt.toNat (S 139 ((((Int32.ofInt 12) * x1) + x2).toInt.toNat))) R _
        refine u_ialdE (v := S 140 ((((Int32.ofInt 12) * x1) + x2).toInt.toNat)) rfl rfl ((z_sn (fun h => absurd h.1 (by decide))).trans ((z_sn (fun h => absurd h.1 (by decide))).trans (z_sn (fun h => absurd h.1 (by decide))))) (fun b81 b82 => ?_)
        have hD := hD b81 b82
        show u_P L xs m d m_X12_bringsBack 62 [(3, .int (((Int32.ofInt 12) * x1) + x2)), (0, .ref 100), (1, .int x1), (2, .int x2)] [.int (S 140 ((((Int32.ofInt 12) * x1) + x2).toInt.toNat)), .int x2, .ref 120] (z_s (z_s (z_s S 116 x2.toInt.toNat (u_nar 2 (S 137 ((((Int32.ofInt 12) * x1) + x2).toInt.toNat)))) 117 x2.toInt.toNat (S 138 ((((Int32.ofInt 12) * x1) + x2).toInt.toNat))) 118 x2.toInt.toNat (S 139 ((((Int32.ofInt 12) * x1) + x2).toInt.toNat))) R _
        refine u_iast rfl rfl (fun b91 b92 => ?_)
        have hD := hD b91 b92
        show u_P L xs m d m_X12_bringsBack 63 [(3, .int (((Int32.ofInt 12) * x1) + x2)), (0, .ref 100), (1, .int x1), (2, .int x2)] [] (z_s (z_s (z_s (z_s S 116 x2.toInt.toNat (u_nar 2 (S 137 ((((Int32.ofInt 12) * x1) + x2).toInt.toNat)))) 117 x2.toInt.toNat (S 138 ((((Int32.ofInt 12) * x1) + x2).toInt.toNat))) 118 x2.toInt.toNat (S 139 ((((Int32.ofInt 12) * x1) + x2).toInt.toNat))) 119 x2.toInt.toNat (S 140 ((((Int32.ofInt 12) * x1) + x2).toInt.toNat))) R _
        refine u_st rfl (fun _ => rfl) ?_
        show u_P L xs m d m_X12_bringsBack 64 [(3, .int (((Int32.ofInt 12) * x1) + x2)), (0, .ref 100), (1, .int x1), (2, .int x2)] [.ref 100] (z_s (z_s (z_s (z_s S 116 x2.toInt.toNat (u_nar 2 (S 137 ((((Int32.ofInt 12) * x1) + x2).toInt.toNat)))) 117 x2.toInt.toNat (S 138 ((((Int32.ofInt 12) * x1) + x2).toInt.toNat))) 118 x2.toInt.toNat (S 139 ((((Int32.ofInt 12) * x1) + x2).toInt.toNat))) 119 x2.toInt.toNat (S 140 ((((Int32.ofInt 12) * x1) + x2).toInt.toNat))) R _
        refine u_getr rfl v_tyM rfl ?_
        refine u_st rfl (fun _ => rfl) ?_
        refine u_st rfl (fun _ => rfl) ?_
        show u_P L xs m d m_X12_bringsBack 69 [(3, .int (((Int32.ofInt 12) * x1) + x2)), (0, .ref 100), (1, .int x1), (2, .int x2)] [.ref 100, .int x2, .ref 121] (z_s (z_s (z_s (z_s S 116 x2.toInt.toNat (u_nar 2 (S 137 ((((Int32.ofInt 12) * x1) + x2).toInt.toNat)))) 117 x2.toInt.toNat (S 138 ((((Int32.ofInt 12) * x1) + x2).toInt.toNat))) 118 x2.toInt.toNat (S 139 ((((Int32.ofInt 12) * x1) + x2).toInt.toNat))) 119 x2.toInt.toNat (S 140 ((((Int32.ofInt 12) * x1) + x2).toInt.toNat))) R _
        refine u_getr rfl v_tyM rfl ?_
        refine u_st rfl (fun _ => rfl) ?_
        show u_P L xs m d m_X12_bringsBack 73 [(3, .int (((Int32.ofInt 12) * x1) + x2)), (0, .ref 100), (1, .int x1), (2, .int x2)] [.int (((Int32.ofInt 12) * x1) + x2), .ref 142, .int x2, .ref 121] (z_s (z_s (z_s (z_s S 116 x2.toInt.toNat (u_nar 2 (S 137 ((((Int32.ofInt 12) * x1) + x2).toInt.toNat)))) 117 x2.toInt.toNat (S 138 ((((Int32.ofInt 12) * x1) + x2).toInt.toNat))) 118 x2.toInt.toNat (S 139 ((((Int32.ofInt 12) * x1) + x2).toInt.toNat))) 119 x2.toInt.toNat (S 140 ((((Int32.ofInt 12) * x1) + x2).toInt.toNat))) R _
        refine u_ialdE (v := S 141 ((((Int32.ofInt 12) * x1) + x2).toInt.toNat)) rfl rfl ((z_sn (fun h => absurd h.1 (by decide))).trans ((z_sn (fun h => absurd h.1 (by decide))).trans ((z_sn (fun h => absurd h.1 (by decide))).trans (z_sn (fun h => absurd h.1 (by decide)))))) (fun b101 b102 => ?_)
        have hD := hD b101 b102
        show u_P L xs m d m_X12_bringsBack 74 [(3, .int (((Int32.ofInt 12) * x1) + x2)), (0, .ref 100), (1, .int x1), (2, .int x2)] [.int (S 141 ((((Int32.ofInt 12) * x1) + x2).toInt.toNat)), .int x2, .ref 121] (z_s (z_s (z_s (z_s S 116 x2.toInt.toNat (u_nar 2 (S 137 ((((Int32.ofInt 12) * x1) + x2).toInt.toNat)))) 117 x2.toInt.toNat (S 138 ((((Int32.ofInt 12) * x1) + x2).toInt.toNat))) 118 x2.toInt.toNat (S 139 ((((Int32.ofInt 12) * x1) + x2).toInt.toNat))) 119 x2.toInt.toNat (S 140 ((((Int32.ofInt 12) * x1) + x2).toInt.toNat))) R _
        refine u_iast rfl rfl (fun b111 b112 => ?_)
        have hD := hD b111 b112
        show u_P L xs m d m_X12_bringsBack 75 [(3, .int (((Int32.ofInt 12) * x1) + x2)), (0, .ref 100), (1, .int x1), (2, .int x2)] [] (z_s (z_s (z_s (z_s (z_s S 116 x2.toInt.toNat (u_nar 2 (S 137 ((((Int32.ofInt 12) * x1) + x2).toInt.toNat)))) 117 x2.toInt.toNat (S 138 ((((Int32.ofInt 12) * x1) + x2).toInt.toNat))) 118 x2.toInt.toNat (S 139 ((((Int32.ofInt 12) * x1) + x2).toInt.toNat))) 119 x2.toInt.toNat (S 140 ((((Int32.ofInt 12) * x1) + x2).toInt.toNat))) 120 x2.toInt.toNat (S 141 ((((Int32.ofInt 12) * x1) + x2).toInt.toNat))) R _
        refine u_st rfl (fun _ => rfl) ?_
        show u_P L xs m d m_X12_bringsBack 76 [(3, .int (((Int32.ofInt 12) * x1) + x2)), (0, .ref 100), (1, .int x1), (2, .int x2)] [.ref 100] (z_s (z_s (z_s (z_s (z_s S 116 x2.toInt.toNat (u_nar 2 (S 137 ((((Int32.ofInt 12) * x1) + x2).toInt.toNat)))) 117 x2.toInt.toNat (S 138 ((((Int32.ofInt 12) * x1) + x2).toInt.toNat))) 118 x2.toInt.toNat (S 139 ((((Int32.ofInt 12) * x1) + x2).toInt.toNat))) 119 x2.toInt.toNat (S 140 ((((Int32.ofInt 12) * x1) + x2).toInt.toNat))) 120 x2.toInt.toNat (S 141 ((((Int32.ofInt 12) * x1) + x2).toInt.toNat))) R _
        refine u_getr rfl v_tyM rfl ?_
        refine u_st rfl (fun _ => rfl) ?_
        refine u_st rfl (fun _ => rfl) ?_
        show u_P L xs m d m_X12_bringsBack 81 [(3, .int (((Int32.ofInt 12) * x1) + x2)), (0, .ref 100), (1, .int x1), (2, .int x2)] [.ref 100, .int x2, .ref 122] (z_s (z_s (z_s (z_s (z_s S 116 x2.toInt.toNat (u_nar 2 (S 137 ((((Int32.ofInt 12) * x1) + x2).toInt.toNat)))) 117 x2.toInt.toNat (S 138 ((((Int32.ofInt 12) * x1) + x2).toInt.toNat))) 118 x2.toInt.toNat (S 139 ((((Int32.ofInt 12) * x1) + x2).toInt.toNat))) 119 x2.toInt.toNat (S 140 ((((Int32.ofInt 12) * x1) + x2).toInt.toNat))) 120 x2.toInt.toNat (S 141 ((((Int32.ofInt 12) * x1) + x2).toInt.toNat))) R _
        refine u_getr rfl v_tyM rfl ?_
        refine u_st rfl (fun _ => rfl) ?_
        show u_P L xs m d m_X12_bringsBack 85 [(3, .int (((Int32.ofInt 12) * x1) + x2)), (0, .ref 100), (1, .int x1), (2, .int x2)] [.int (((Int32.ofInt 12) * x1) + x2), .ref 143, .int x2, .ref 122] (z_s (z_s (z_s (z_s (z_s S 116 x2.toInt.toNat (u_nar 2 (S 137 ((((Int32.ofInt 12) * x1) + x2).toInt.toNat)))) 117 x2.toInt.toNat (S 138 ((((Int32.ofInt 12) * x1) + x2).toInt.toNat))) 118 x2.toInt.toNat (S 139 ((((Int32.ofInt 12) * x1) + x2).toInt.toNat))) 119 x2.toInt.toNat (S 140 ((((Int32.ofInt 12) * x1) + x2).toInt.toNat))) 120 x2.toInt.toNat (S 141 ((((Int32.ofInt 12) * x1) + x2).toInt.toNat))) R _
        refine u_ialdE (v := S 142 ((((Int32.ofInt 12) * x1) + x2).toInt.toNat)) rfl rfl ((z_sn (fun h => absurd h.1 (by decide))).trans ((z_sn (fun h => absurd h.1 (by decide))).trans ((z_sn (fun h => absurd h.1 (by decide))).trans ((z_sn (fun h => absurd h.1 (by decide))).trans (z_sn (fun h => absurd h.1 (by decide))))))) (fun b121 b122 => ?_)
        have hD := hD b121 b122
        show u_P L xs m d m_X12_bringsBack 86 [(3, .int (((Int32.ofInt 12) * x1) + x2)), (0, .ref 100), (1, .int x1), (2, .int x2)] [.int (S 142 ((((Int32.ofInt 12) * x1) + x2).toInt.toNat)), .int x2, .ref 122] (z_s (z_s (z_s (z_s (z_s S 116 x2.toInt.toNat (u_nar 2 (S 137 ((((Int32.ofInt 12) * x1) + x2).toInt.toNat)))) 117 x2.toInt.toNat (S 138 ((((Int32.ofInt 12) * x1) + x2).toInt.toNat))) 118 x2.toInt.toNat (S 139 ((((Int32.ofInt 12) * x1) + x2).toInt.toNat))) 119 x2.toInt.toNat (S 140 ((((Int32.ofInt 12) * x1) + x2).toInt.toNat))) 120 x2.toInt.toNat (S 141 ((((Int32.ofInt 12) * x1) + x2).toInt.toNat))) R _
        refine u_iast rfl rfl (fun b131 b132 => ?_)
        have hD := hD b131 b132
        show u_P L xs m d m_X12_bringsBack 87 [(3, .int (((Int32.ofInt 12) * x1) + x2)), (0, .ref 100), (1, .int x1), (2, .int x2)] [] (z_s (z_s (z_s (z_s (z_s (z_s S 116 x2.toInt.toNat (u_nar 2 (S 137 ((((Int32.ofInt 12) * x1) + x2).toInt.toNat)))) 117 x2.toInt.toNat (S 138 ((((Int32.ofInt 12) * x1) + x2).toInt.toNat))) 118 x2.toInt.toNat (S 139 ((((Int32.ofInt 12) * x1) + x2).toInt.toNat))) 119 x2.toInt.toNat (S 140 ((((Int32.ofInt 12) * x1) + x2).toInt.toNat))) 120 x2.toInt.toNat (S 141 ((((Int32.ofInt 12) * x1) + x2).toInt.toNat))) 121 x2.toInt.toNat (S 142 ((((Int32.ofInt 12) * x1) + x2).toInt.toNat))) R _
        refine u_st rfl (fun _ => rfl) ?_
        show u_P L xs m d m_X12_bringsBack 88 [(3, .int (((Int32.ofInt 12) * x1) + x2)), (0, .ref 100), (1, .int x1), (2, .int x2)] [.ref 100] (z_s (z_s (z_s (z_s (z_s (z_s S 116 x2.toInt.toNat (u_nar 2 (S 137 ((((Int32.ofInt 12) * x1) + x2).toInt.toNat)))) 117 x2.toInt.toNat (S 138 ((((Int32.ofInt 12) * x1) + x2).toInt.toNat))) 118 x2.toInt.toNat (S 139 ((((Int32.ofInt 12) * x1) + x2).toInt.toNat))) 119 x2.toInt.toNat (S 140 ((((Int32.ofInt 12) * x1) + x2).toInt.toNat))) 120 x2.toInt.toNat (S 141 ((((Int32.ofInt 12) * x1) + x2).toInt.toNat))) 121 x2.toInt.toNat (S 142 ((((Int32.ofInt 12) * x1) + x2).toInt.toNat))) R _
        refine u_getr rfl v_tyM rfl ?_
        refine u_st rfl (fun _ => rfl) ?_
        refine u_st rfl (fun _ => rfl) ?_
        show u_P L xs m d m_X12_bringsBack 93 [(3, .int (((Int32.ofInt 12) * x1) + x2)), (0, .ref 100), (1, .int x1), (2, .int x2)] [.ref 100, .int x2, .ref 123] (z_s (z_s (z_s (z_s (z_s (z_s S 116 x2.toInt.toNat (u_nar 2 (S 137 ((((Int32.ofInt 12) * x1) + x2).toInt.toNat)))) 117 x2.toInt.toNat (S 138 ((((Int32.ofInt 12) * x1) + x2).toInt.toNat))) 118 x2.toInt.toNat (S 139 ((((Int32.ofInt 12) * x1) + x2).toInt.toNat))) 119 x2.toInt.toNat (S 140 ((((Int32.ofInt 12) * x1) + x2).toInt.toNat))) 120 x2.toInt.toNat (S 141 ((((Int32.ofInt 12) * x1) + x2).toInt.toNat))) 121 x2.toInt.toNat (S 142 ((((Int32.ofInt 12) * x1) + x2).toInt.toNat))) R _
        refine u_getr rfl v_tyM rfl ?_
        refine u_st rfl (fun _ => rfl) ?_
        show u_P L xs m d m_X12_bringsBack 97 [(3, .int (((Int32.ofInt 12) * x1) + x2)), (0, .ref 100), (1, .int x1), (2, .int x2)] [.int (((Int32.ofInt 12) * x1) + x2), .ref 144, .int x2, .ref 123] (z_s (z_s (z_s (z_s (z_s (z_s S 116 x2.toInt.toNat (u_nar 2 (S 137 ((((Int32.ofInt 12) * x1) + x2).toInt.toNat)))) 117 x2.toInt.toNat (S 138 ((((Int32.ofInt 12) * x1) + x2).toInt.toNat))) 118 x2.toInt.toNat (S 139 ((((Int32.ofInt 12) * x1) + x2).toInt.toNat))) 119 x2.toInt.toNat (S 140 ((((Int32.ofInt 12) * x1) + x2).toInt.toNat))) 120 x2.toInt.toNat (S 141 ((((Int32.ofInt 12) * x1) + x2).toInt.toNat))) 121 x2.toInt.toNat (S 142 ((((Int32.ofInt 12) * x1) + x2).toInt.toNat))) R _
        refine u_ialdE (v := S 143 ((((Int32.ofInt 12) * x1) + x2).toInt.toNat)) rfl rfl ((z_sn (fun h => absurd h.1 (by decide))).trans ((z_sn (fun h => absurd h.1 (by decide))).trans ((z_sn (fun h => absurd h.1 (by decide))).trans ((z_sn (fun h => absurd h.1 (by decide))).trans ((z_sn (fun h => absurd h.1 (by decide))).trans (z_sn (fun h => absurd h.1 (by decide)))))))) (fun b141 b142 => ?_)
        have hD := hD b141 b142
        show u_P L xs m d m_X12_bringsBack 98 [(3, .int (((Int32.ofInt 12) * x1) + x2)), (0, .ref 100), (1, .int x1), (2, .int x2)] [.int (S 143 ((((Int32.ofInt 12) * x1) + x2).toInt.toNat)), .int x2, .ref 123] (z_s (z_s (z_s (z_s (z_s (z_s S 116 x2.toInt.toNat (u_nar 2 (S 137 ((((Int32.ofInt 12) * x1) + x2).toInt.toNat)))) 117 x2.toInt.toNat (S 138 ((((Int32.ofInt 12) * x1) + x2).toInt.toNat))) 118 x2.toInt.toNat (S 139 ((((Int32.ofInt 12) * x1) + x2).toInt.toNat))) 119 x2.toInt.toNat (S 140 ((((Int32.ofInt 12) * x1) + x2).toInt.toNat))) 120 x2.toInt.toNat (S 141 ((((Int32.ofInt 12) * x1) + x2).toInt.toNat))) 121 x2.toInt.toNat (S 142 ((((Int32.ofInt 12) * x1) + x2).toInt.toNat))) R _
        refine u_iast rfl rfl (fun b151 b152 => ?_)
        have hD := hD b151 b152
        show u_P L xs m d m_X12_bringsBack 99 [(3, .int (((Int32.ofInt 12) * x1) + x2)), (0, .ref 100), (1, .int x1), (2, .int x2)] [] (z_s (z_s (z_s (z_s (z_s (z_s (z_s S 116 x2.toInt.toNat (u_nar 2 (S 137 ((((Int32.ofInt 12) * x1) + x2).toInt.toNat)))) 117 x2.toInt.toNat (S 138 ((((Int32.ofInt 12) * x1) + x2).toInt.toNat))) 118 x2.toInt.toNat (S 139 ((((Int32.ofInt 12) * x1) + x2).toInt.toNat))) 119 x2.toInt.toNat (S 140 ((((Int32.ofInt 12) * x1) + x2).toInt.toNat))) 120 x2.toInt.toNat (S 141 ((((Int32.ofInt 12) * x1) + x2).toInt.toNat))) 121 x2.toInt.toNat (S 142 ((((Int32.ofInt 12) * x1) + x2).toInt.toNat))) 122 x2.toInt.toNat (S 143 ((((Int32.ofInt 12) * x1) + x2).toInt.toNat))) R _
        refine u_st rfl (fun _ => rfl) ?_
        refine u_st rfl (fun _ => rfl) ?_
        refine u_lc (b := [(0, .ref 100), (1, .int x1), (2, .int (x2 + (Int32.ofInt 1))), (3, .int (((Int32.ofInt 12) * x1) + x2))]) (show ([2, 3, 0, 1] : List Nat).Nodup by decide) (show ([0, 1, 2, 3] : List Nat).Nodup by decide) (fun i => match i with | 0 => rfl | 1 => rfl | 2 => rfl | 3 => rfl | _ + 4 => rfl) ?_
        exact (ih m hm).2.1 d (((Int32.ofInt 12) * x1) + x2) x1 (x2 + (Int32.ofInt 1)) (z_s (z_s (z_s (z_s (z_s (z_s (z_s S 116 x2.toInt.toNat (u_nar 2 (S 137 ((((Int32.ofInt 12) * x1) + x2).toInt.toNat)))) 117 x2.toInt.toNat (S 138 ((((Int32.ofInt 12) * x1) + x2).toInt.toNat))) 118 x2.toInt.toNat (S 139 ((((Int32.ofInt 12) * x1) + x2).toInt.toNat))) 119 x2.toInt.toNat (S 140 ((((Int32.ofInt 12) * x1) + x2).toInt.toNat))) 120 x2.toInt.toNat (S 141 ((((Int32.ofInt 12) * x1) + x2).toInt.toNat))) 121 x2.toInt.toNat (S 142 ((((Int32.ofInt 12) * x1) + x2).toInt.toNat))) 122 x2.toInt.toNat (S 143 ((((Int32.ofInt 12) * x1) + x2).toInt.toNat))) hD
    · intro d j3 x1 x2 S hD
      have hD := k2 x1 x2 S hD
      unfold D_X12_bringsBack_2 at hD
      show u_P L xs n d m_X12_bringsBack 2 [(0, .ref 100), (1, .int x1), (2, .int x2), (3, .int j3)] [] S R _
      refine u_st1 rfl (fun _ => rfl) (fun m hm => ?_)
      refine u_st rfl (fun _ => rfl) ?_
      show u_P L xs m d m_X12_bringsBack 5 [(0, .ref 100), (1, .int x1), (2, .int x2), (3, .int j3)] [.int (Int32.ofInt 12), .int x2] S R _
      refine u_ic_ge rfl (fun h1 => ?_) (fun h1 => ?_)
      · have hD := hD.1 h1
        show u_P L xs m d m_X12_bringsBack 105 [(0, .ref 100), (1, .int x1), (2, .int x2), (3, .int j3)] [] S R _
        refine u_st rfl (fun _ => rfl) ?_
        refine u_st rfl (fun _ => rfl) ?_
        refine u_lc (b := [(0, .ref 100), (1, .int x1), (2, .int (Int32.ofInt 0)), (3, .int j3)]) (show ([2, 0, 1, 3] : List Nat).Nodup by decide) (show ([0, 1, 2, 3] : List Nat).Nodup by decide) (fun i => match i with | 0 => rfl | 1 => rfl | 2 => rfl | 3 => rfl | _ + 4 => rfl) ?_
        exact (ih m hm).2.2.2.1 d j3 x1 (Int32.ofInt 0) S hD
      · have hD := hD.2 h1
        show u_P L xs m d m_X12_bringsBack 8 [(0, .ref 100), (1, .int x1), (2, .int x2), (3, .int j3)] [] S R _
        refine u_st rfl (fun _ => rfl) ?_
        refine u_st rfl (fun _ => rfl) ?_
        refine u_st rfl (fun _ => rfl) ?_
        refine u_st rfl (fun _ => rfl) ?_
        refine u_st rfl (fun _ => rfl) ?_
        refine u_st rfl (fun _ => rfl) ?_
        refine u_st rfl (fun _ => rfl) ?_
        show u_P L xs m d m_X12_bringsBack 16 [(3, .int (((Int32.ofInt 12) * x1) + x2)), (0, .ref 100), (1, .int x1), (2, .int x2)] [.ref 100] S R _
        refine u_getr rfl v_tyM rfl ?_
        refine u_st rfl (fun _ => rfl) ?_
        refine u_st rfl (fun _ => rfl) ?_
        show u_P L xs m d m_X12_bringsBack 21 [(3, .int (((Int32.ofInt 12) * x1) + x2)), (0, .ref 100), (1, .int x1), (2, .int x2)] [.ref 100, .int x2, .ref 117] S R _
        refine u_getr rfl v_tyM rfl ?_
        refine u_st rfl (fun _ => rfl) ?_
        show u_P L xs m d m_X12_bringsBack 25 [(3, .int (((Int32.ofInt 12) * x1) + x2)), (0, .ref 100), (1, .int x1), (2, .int x2)] [.int (((Int32.ofInt 12) * x1) + x2), .ref 138, .int x2, .ref 117] S R _
        refine u_baldE (v := S 137 ((((Int32.ofInt 12) * x1) + x2).toInt.toNat)) rfl rfl (by decide) rfl (fun b21 b22 => ?_)
        have hD := hD b21 b22
        show u_P L xs m d m_X12_bringsBack 26 [(3, .int (((Int32.ofInt 12) * x1) + x2)), (0, .ref 100), (1, .int x1), (2, .int x2)] [.int (S 137 ((((Int32.ofInt 12) * x1) + x2).toInt.toNat)), .int x2, .ref 117] S R _
        refine u_bast rfl rfl (by decide) (fun b31 b32 => ?_)
        have hD := hD b31 b32
        show u_P L xs m d m_X12_bringsBack 27 [(3, .int (((Int32.ofInt 12) * x1) + x2)), (0, .ref 100), (1, .int x1), (2, .int x2)] [] (z_s S 116 x2.toInt.toNat (u_nar 2 (S 137 ((((Int32.ofInt 12) * x1) + x2).toInt.toNat)))) R _
        refine u_st rfl (fun _ => rfl) ?_
        show u_P L xs m d m_X12_bringsBack 28 [(3, .int (((Int32.ofInt 12) * x1) + x2)), (0, .ref 100), (1, .int x1), (2, .int x2)] [.ref 100] (z_s S 116 x2.toInt.toNat (u_nar 2 (S 137 ((((Int32.ofInt 12) * x1) + x2).toInt.toNat)))) R _
        refine u_getr rfl v_tyM rfl ?_
        refine u_st rfl (fun _ => rfl) ?_
        refine u_st rfl (fun _ => rfl) ?_
        show u_P L xs m d m_X12_bringsBack 33 [(3, .int (((Int32.ofInt 12) * x1) + x2)), (0, .ref 100), (1, .int x1), (2, .int x2)] [.ref 100, .int x2, .ref 118] (z_s S 116 x2.toInt.toNat (u_nar 2 (S 137 ((((Int32.ofInt 12) * x1) + x2).toInt.toNat)))) R _
        refine u_getr rfl v_tyM rfl ?_
        refine u_st rfl (fun _ => rfl) ?_
        show u_P L xs m d m_X12_bringsBack 37 [(3, .int (((Int32.ofInt 12) * x1) + x2)), (0, .ref 100), (1, .int x1), (2, .int x2)] [.int (((Int32.ofInt 12) * x1) + x2), .ref 139, .int x2, .ref 118] (z_s S 116 x2.toInt.toNat (u_nar 2 (S 137 ((((Int32.ofInt 12) * x1) + x2).toInt.toNat)))) R _
        refine u_ialdE (v := S 138 ((((Int32.ofInt 12) * x1) + x2).toInt.toNat)) rfl rfl (z_sn (fun h => absurd h.1 (by decide))) (fun b41 b42 => ?_)
        have hD := hD b41 b42
        show u_P L xs m d m_X12_bringsBack 38 [(3, .int (((Int32.ofInt 12) * x1) + x2)), (0, .ref 100), (1, .int x1), (2, .int x2)] [.int (S 138 ((((Int32.ofInt 12) * x1) + x2).toInt.toNat)), .int x2, .ref 118] (z_s S 116 x2.toInt.toNat (u_nar 2 (S 137 ((((Int32.ofInt 12) * x1) + x2).toInt.toNat)))) R _
        refine u_iast rfl rfl (fun b51 b52 => ?_)
        have hD := hD b51 b52
        show u_P L xs m d m_X12_bringsBack 39 [(3, .int (((Int32.ofInt 12) * x1) + x2)), (0, .ref 100), (1, .int x1), (2, .int x2)] [] (z_s (z_s S 116 x2.toInt.toNat (u_nar 2 (S 137 ((((Int32.ofInt 12) * x1) + x2).toInt.toNat)))) 117 x2.toInt.toNat (S 138 ((((Int32.ofInt 12) * x1) + x2).toInt.toNat))) R _
        refine u_st rfl (fun _ => rfl) ?_
        show u_P L xs m d m_X12_bringsBack 40 [(3, .int (((Int32.ofInt 12) * x1) + x2)), (0, .ref 100), (1, .int x1), (2, .int x2)] [.ref 100] (z_s (z_s S 116 x2.toInt.toNat (u_nar 2 (S 137 ((((Int32.ofInt 12) * x1) + x2).toInt.toNat)))) 117 x2.toInt.toNat (S 138 ((((Int32.ofInt 12) * x1) + x2).toInt.toNat))) R _
        refine u_getr rfl v_tyM rfl ?_
        refine u_st rfl (fun _ => rfl) ?_
        refine u_st rfl (fun _ => rfl) ?_
        show u_P L xs m d m_X12_bringsBack 45 [(3, .int (((Int32.ofInt 12) * x1) + x2)), (0, .ref 100), (1, .int x1), (2, .int x2)] [.ref 100, .int x2, .ref 119] (z_s (z_s S 116 x2.toInt.toNat (u_nar 2 (S 137 ((((Int32.ofInt 12) * x1) + x2).toInt.toNat)))) 117 x2.toInt.toNat (S 138 ((((Int32.ofInt 12) * x1) + x2).toInt.toNat))) R _
        refine u_getr rfl v_tyM rfl ?_
        refine u_st rfl (fun _ => rfl) ?_
        show u_P L xs m d m_X12_bringsBack 49 [(3, .int (((Int32.ofInt 12) * x1) + x2)), (0, .ref 100), (1, .int x1), (2, .int x2)] [.int (((Int32.ofInt 12) * x1) + x2), .ref 140, .int x2, .ref 119] (z_s (z_s S 116 x2.toInt.toNat (u_nar 2 (S 137 ((((Int32.ofInt 12) * x1) + x2).toInt.toNat)))) 117 x2.toInt.toNat (S 138 ((((Int32.ofInt 12) * x1) + x2).toInt.toNat))) R _
        refine u_ialdE (v := S 139 ((((Int32.ofInt 12) * x1) + x2).toInt.toNat)) rfl rfl ((z_sn (fun h => absurd h.1 (by decide))).trans (z_sn (fun h => absurd h.1 (by decide)))) (fun b61 b62 => ?_)
        have hD := hD b61 b62
        show u_P L xs m d m_X12_bringsBack 50 [(3, .int (((Int32.ofInt 12) * x1) + x2)), (0, .ref 100), (1, .int x1), (2, .int x2)] [.int (S 139 ((((Int32.ofInt 12) * x1) + x2).toInt.toNat)), .int x2, .ref 119] (z_s (z_s S 116 x2.toInt.toNat (u_nar 2 (S 137 ((((Int32.ofInt 12) * x1) + x2).toInt.toNat)))) 117 x2.toInt.toNat (S 138 ((((Int32.ofInt 12) * x1) + x2).toInt.toNat))) R _
        refine u_iast rfl rfl (fun b71 b72 => ?_)
        have hD := hD b71 b72
        show u_P L xs m d m_X12_bringsBack 51 [(3, .int (((Int32.ofInt 12) * x1) + x2)), (0, .ref 100), (1, .int x1), (2, .int x2)] [] (z_s (z_s (z_s S 116 x2.toInt.toNat (u_nar 2 (S 137 ((((Int32.ofInt 12) * x1) + x2).toInt.toNat)))) 117 x2.toInt.toNat (S 138 ((((Int32.ofInt 12) * x1) + x2).toInt.toNat))) 118 x2.toInt.toNat (S 139 ((((Int32.ofInt 12) * x1) + x2).toInt.toNat))) R _
        refine u_st rfl (fun _ => rfl) ?_
        show u_P L xs m d m_X12_bringsBack 52 [(3, .int (((Int32.ofInt 12) * x1) + x2)), (0, .ref 100), (1, .int x1), (2, .int x2)] [.ref 100] (z_s (z_s (z_s S 116 x2.toInt.toNat (u_nar 2 (S 137 ((((Int32.ofInt 12) * x1) + x2).toInt.toNat)))) 117 x2.toInt.toNat (S 138 ((((Int32.ofInt 12) * x1) + x2).toInt.toNat))) 118 x2.toInt.toNat (S 139 ((((Int32.ofInt 12) * x1) + x2).toInt.toNat))) R _
        refine u_getr rfl v_tyM rfl ?_
        refine u_st rfl (fun _ => rfl) ?_
        refine u_st rfl (fun _ => rfl) ?_
        show u_P L xs m d m_X12_bringsBack 57 [(3, .int (((Int32.ofInt 12) * x1) + x2)), (0, .ref 100), (1, .int x1), (2, .int x2)] [.ref 100, .int x2, .ref 120] (z_s (z_s (z_s S 116 x2.toInt.toNat (u_nar 2 (S 137 ((((Int32.ofInt 12) * x1) + x2).toInt.toNat)))) 117 x2.toInt.toNat (S 138 ((((Int32.ofInt 12) * x1) + x2).toInt.toNat))) 118 x2.toInt.toNat (S 139 ((((Int32.ofInt 12) * x1) + x2).toInt.toNat))) R _
        refine u_getr rfl v_tyM rfl ?_
        refine u_st rfl (fun _ => rfl) ?_
        show u_P L xs m d m_X12_bringsBack 61 [(3, .int (((Int32.ofInt 12) * x1) + x2)), (0, .ref 100), (1, .int x1), (2, .int x2)] [.int (((Int32.ofInt 12) * x1) + x2), .ref 141, .int x2, .ref 120] (z_s (z_s (z_s S 116 x2.toInt.toNat (u_nar 2 (S 137 ((((Int32.ofInt 12) * x1) + x2).toInt.toNat)))) 117 x2.toInt.toNat (S 138 ((((Int32.ofInt 12) * x1) + x2).toInt.toNat))) 118 x2.toInt.toNat (S 139 ((((Int32.ofInt 12) * x1) + x2).toInt.toNat))) R _
        refine u_ialdE (v := S 140 ((((Int32.ofInt 12) * x1) + x2).toInt.toNat)) rfl rfl ((z_sn (fun h => absurd h.1 (by decide))).trans ((z_sn (fun h => absurd h.1 (by decide))).trans (z_sn (fun h => absurd h.1 (by decide))))) (fun b81 b82 => ?_)
        have hD := hD b81 b82
        show u_P L xs m d m_X12_bringsBack 62 [(3, .int (((Int32.ofInt 12) * x1) + x2)), (0, .ref 100), (1, .int x1), (2, .int x2)] [.int (S 140 ((((Int32.ofInt 12) * x1) + x2).toInt.toNat)), .int x2, .ref 120] (z_s (z_s (z_s S 116 x2.toInt.toNat (u_nar 2 (S 137 ((((Int32.ofInt 12) * x1) + x2).toInt.toNat)))) 117 x2.toInt.toNat (S 138 ((((Int32.ofInt 12) * x1) + x2).toInt.toNat))) 118 x2.toInt.toNat (S 139 ((((Int32.ofInt 12) * x1) + x2).toInt.toNat))) R _
        refine u_iast rfl rfl (fun b91 b92 => ?_)
        have hD := hD b91 b92
        show u_P L xs m d m_X12_bringsBack 63 [(3, .int (((Int32.ofInt 12) * x1) + x2)), (0, .ref 100), (1, .int x1), (2, .int x2)] [] (z_s (z_s (z_s (z_s S 116 x2.toInt.toNat (u_nar 2 (S 137 ((((Int32.ofInt 12) * x1) + x2).toInt.toNat)))) 117 x2.toInt.toNat (S 138 ((((Int32.ofInt 12) * x1) + x2).toInt.toNat))) 118 x2.toInt.toNat (S 139 ((((Int32.ofInt 12) * x1) + x2).toInt.toNat))) 119 x2.toInt.toNat (S 140 ((((Int32.ofInt 12) * x1) + x2).toInt.toNat))) R _
        refine u_st rfl (fun _ => rfl) ?_
        show u_P L xs m d m_X12_bringsBack 64 [(3, .int (((Int32.ofInt 12) * x1) + x2)), (0, .ref 100), (1, .int x1), (2, .int x2)] [.ref 100] (z_s (z_s (z_s (z_s S 116 x2.toInt.toNat (u_nar 2 (S 137 ((((Int32.ofInt 12) * x1) + x2).toInt.toNat)))) 117 x2.toInt.toNat (S 138 ((((Int32.ofInt 12) * x1) + x2).toInt.toNat))) 118 x2.toInt.toNat (S 139 ((((Int32.ofInt 12) * x1) + x2).toInt.toNat))) 119 x2.toInt.toNat (S 140 ((((Int32.ofInt 12) * x1) + x2).toInt.toNat))) R _
        refine u_getr rfl v_tyM rfl ?_
        refine u_st rfl (fun _ => rfl) ?_
        refine u_st rfl (fun _ => rfl) ?_
        show u_P L xs m d m_X12_bringsBack 69 [(3, .int (((Int32.ofInt 12) * x1) + x2)), (0, .ref 100), (1, .int x1), (2, .int x2)] [.ref 100, .int x2, .ref 121] (z_s (z_s (z_s (z_s S 116 x2.toInt.toNat (u_nar 2 (S 137 ((((Int32.ofInt 12) * x1) + x2).toInt.toNat)))) 117 x2.toInt.toNat (S 138 ((((Int32.ofInt 12) * x1) + x2).toInt.toNat))) 118 x2.toInt.toNat (S 139 ((((Int32.ofInt 12) * x1) + x2).toInt.toNat))) 119 x2.toInt.toNat (S 140 ((((Int32.ofInt 12) * x1) + x2).toInt.toNat))) R _
        refine u_getr rfl v_tyM rfl ?_
        refine u_st rfl (fun _ => rfl) ?_
        show u_P L xs m d m_X12_bringsBack 73 [(3, .int (((Int32.ofInt 12) * x1) + x2)), (0, .ref 100), (1, .int x1), (2, .int x2)] [.int (((Int32.ofInt 12) * x1) + x2), .ref 142, .int x2, .ref 121] (z_s (z_s (z_s (z_s S 116 x2.toInt.toNat (u_nar 2 (S 137 ((((Int32.ofInt 12) * x1) + x2).toInt.toNat)))) 117 x2.toInt.toNat (S 138 ((((Int32.ofInt 12) * x1) + x2).toInt.toNat))) 118 x2.toInt.toNat (S 139 ((((Int32.ofInt 12) * x1) + x2).toInt.toNat))) 119 x2.toInt.toNat (S 140 ((((Int32.ofInt 12) * x1) + x2).toInt.toNat))) R _
        refine u_ialdE (v := S 141 ((((Int32.ofInt 12) * x1) + x2).toInt.toNat)) rfl rfl ((z_sn (fun h => absurd h.1 (by decide))).trans ((z_sn (fun h => absurd h.1 (by decide))).trans ((z_sn (fun h => absurd h.1 (by decide))).trans (z_sn (fun h => absurd h.1 (by decide)))))) (fun b101 b102 => ?_)
        have hD := hD b101 b102
        show u_P L xs m d m_X12_bringsBack 74 [(3, .int (((Int32.ofInt 12) * x1) + x2)), (0, .ref 100), (1, .int x1), (2, .int x2)] [.int (S 141 ((((Int32.ofInt 12) * x1) + x2).toInt.toNat)), .int x2, .ref 121] (z_s (z_s (z_s (z_s S 116 x2.toInt.toNat (u_nar 2 (S 137 ((((Int32.ofInt 12) * x1) + x2).toInt.toNat)))) 117 x2.toInt.toNat (S 138 ((((Int32.ofInt 12) * x1) + x2).toInt.toNat))) 118 x2.toInt.toNat (S 139 ((((Int32.ofInt 12) * x1) + x2).toInt.toNat))) 119 x2.toInt.toNat (S 140 ((((Int32.ofInt 12) * x1) + x2).toInt.toNat))) R _
        refine u_iast rfl rfl (fun b111 b112 => ?_)
        have hD := hD b111 b112
        show u_P L xs m d m_X12_bringsBack 75 [(3, .int (((Int32.ofInt 12) * x1) + x2)), (0, .ref 100), (1, .int x1), (2, .int x2)] [] (z_s (z_s (z_s (z_s (z_s S 116 x2.toInt.toNat (u_nar 2 (S 137 ((((Int32.ofInt 12) * x1) + x2).toInt.toNat)))) 117 x2.toInt.toNat (S 138 ((((Int32.ofInt 12) * x1) + x2).toInt.toNat))) 118 x2.toInt.toNat (S 139 ((((Int32.ofInt 12) * x1) + x2).toInt.toNat))) 119 x2.toInt.toNat (S 140 ((((Int32.ofInt 12) * x1) + x2).toInt.toNat))) 120 x2.toInt.toNat (S 141 ((((Int32.ofInt 12) * x1) + x2).toInt.toNat))) R _
        refine u_st rfl (fun _ => rfl) ?_
        show u_P L xs m d m_X12_bringsBack 76 [(3, .int (((Int32.ofInt 12) * x1) + x2)), (0, .ref 100), (1, .int x1), (2, .int x2)] [.ref 100] (z_s (z_s (z_s (z_s (z_s S 116 x2.toInt.toNat (u_nar 2 (S 137 ((((Int32.ofInt 12) * x1) + x2).toInt.toNat)))) 117 x2.toInt.toNat (S 138 ((((Int32.ofInt 12) * x1) + x2).toInt.toNat))) 118 x2.toInt.toNat (S 139 ((((Int32.ofInt 12) * x1) + x2).toInt.toNat))) 119 x2.toInt.toNat (S 140 ((((Int32.ofInt 12) * x1) + x2).toInt.toNat))) 120 x2.toInt.toNat (S 141 ((((Int32.ofInt 12) * x1) + x2).toInt.toNat))) R _
        refine u_getr rfl v_tyM rfl ?_
        refine u_st rfl (fun _ => rfl) ?_
        refine u_st rfl (fun _ => rfl) ?_
        show u_P L xs m d m_X12_bringsBack 81 [(3, .int (((Int32.ofInt 12) * x1) + x2)), (0, .ref 100), (1, .int x1), (2, .int x2)] [.ref 100, .int x2, .ref 122] (z_s (z_s (z_s (z_s (z_s S 116 x2.toInt.toNat (u_nar 2 (S 137 ((((Int32.ofInt 12) * x1) + x2).toInt.toNat)))) 117 x2.toInt.toNat (S 138 ((((Int32.ofInt 12) * x1) + x2).toInt.toNat))) 118 x2.toInt.toNat (S 139 ((((Int32.ofInt 12) * x1) + x2).toInt.toNat))) 119 x2.toInt.toNat (S 140 ((((Int32.ofInt 12) * x1) + x2).toInt.toNat))) 120 x2.toInt.toNat (S 141 ((((Int32.ofInt 12) * x1) + x2).toInt.toNat))) R _
        refine u_getr rfl v_tyM rfl ?_
        refine u_st rfl (fun _ => rfl) ?_
        show u_P L xs m d m_X12_bringsBack 85 [(3, .int (((Int32.ofInt 12) * x1) + x2)), (0, .ref 100), (1, .int x1), (2, .int x2)] [.int (((Int32.ofInt 12) * x1) + x2), .ref 143, .int x2, .ref 122] (z_s (z_s (z_s (z_s (z_s S 116 x2.toInt.toNat (u_nar 2 (S 137 ((((Int32.ofInt 12) * x1) + x2).toInt.toNat)))) 117 x2.toInt.toNat (S 138 ((((Int32.ofInt 12) * x1) + x2).toInt.toNat))) 118 x2.toInt.toNat (S 139 ((((Int32.ofInt 12) * x1) + x2).toInt.toNat))) 119 x2.toInt.toNat (S 140 ((((Int32.ofInt 12) * x1) + x2).toInt.toNat))) 120 x2.toInt.toNat (S 141 ((((Int32.ofInt 12) * x1) + x2).toInt.toNat))) R _
        refine u_ialdE (v := S 142 ((((Int32.ofInt 12) * x1) + x2).toInt.toNat)) rfl rfl ((z_sn (fun h => absurd h.1 (by decide))).trans ((z_sn (fun h => absurd h.1 (by decide))).trans ((z_sn (fun h => absurd h.1 (by decide))).trans ((z_sn (fun h => absurd h.1 (by decide))).trans (z_sn (fun h => absurd h.1 (by decide))))))) (fun b121 b122 => ?_)
        have hD := hD b121 b122
        show u_P L xs m d m_X12_bringsBack 86 [(3, .int (((Int32.ofInt 12) * x1) + x2)), (0, .ref 100), (1, .int x1), (2, .int x2)] [.int (S 142 ((((Int32.ofInt 12) * x1) + x2).toInt.toNat)), .int x2, .ref 122] (z_s (z_s (z_s (z_s (z_s S 116 x2.toInt.toNat (u_nar 2 (S 137 ((((Int32.ofInt 12) * x1) + x2).toInt.toNat)))) 117 x2.toInt.toNat (S 138 ((((Int32.ofInt 12) * x1) + x2).toInt.toNat))) 118 x2.toInt.toNat (S 139 ((((Int32.ofInt 12) * x1) + x2).toInt.toNat))) 119 x2.toInt.toNat (S 140 ((((Int32.ofInt 12) * x1) + x2).toInt.toNat))) 120 x2.toInt.toNat (S 141 ((((Int32.ofInt 12) * x1) + x2).toInt.toNat))) R _
        refine u_iast rfl rfl (fun b131 b132 => ?_)
        have hD := hD b131 b132
        show u_P L xs m d m_X12_bringsBack 87 [(3, .int (((Int32.ofInt 12) * x1) + x2)), (0, .ref 100), (1, .int x1), (2, .int x2)] [] (z_s (z_s (z_s (z_s (z_s (z_s S 116 x2.toInt.toNat (u_nar 2 (S 137 ((((Int32.ofInt 12) * x1) + x2).toInt.toNat)))) 117 x2.toInt.toNat (S 138 ((((Int32.ofInt 12) * x1) + x2).toInt.toNat))) 118 x2.toInt.toNat (S 139 ((((Int32.ofInt 12) * x1) + x2).toInt.toNat))) 119 x2.toInt.toNat (S 140 ((((Int32.ofInt 12) * x1) + x2).toInt.toNat))) 120 x2.toInt.toNat (S 141 ((((Int32.ofInt 12) * x1) + x2).toInt.toNat))) 121 x2.toInt.toNat (S 142 ((((Int32.ofInt 12) * x1) + x2).toInt.toNat))) R _
        refine u_st rfl (fun _ => rfl) ?_
        show u_P L xs m d m_X12_bringsBack 88 [(3, .int (((Int32.ofInt 12) * x1) + x2)), (0, .ref 100), (1, .int x1), (2, .int x2)] [.ref 100] (z_s (z_s (z_s (z_s (z_s (z_s S 116 x2.toInt.toNat (u_nar 2 (S 137 ((((Int32.ofInt 12) * x1) + x2).toInt.toNat)))) 117 x2.toInt.toNat (S 138 ((((Int32.ofInt 12) * x1) + x2).toInt.toNat))) 118 x2.toInt.toNat (S 139 ((((Int32.ofInt 12) * x1) + x2).toInt.toNat))) 119 x2.toInt.toNat (S 140 ((((Int32.ofInt 12) * x1) + x2).toInt.toNat))) 120 x2.toInt.toNat (S 141 ((((Int32.ofInt 12) * x1) + x2).toInt.toNat))) 121 x2.toInt.toNat (S 142 ((((Int32.ofInt 12) * x1) + x2).toInt.toNat))) R _
        refine u_getr rfl v_tyM rfl ?_
        refine u_st rfl (fun _ => rfl) ?_
        refine u_st rfl (fun _ => rfl) ?_
        show u_P L xs m d m_X12_bringsBack 93 [(3, .int (((Int32.ofInt 12) * x1) + x2)), (0, .ref 100), (1, .int x1), (2, .int x2)] [.ref 100, .int x2, .ref 123] (z_s (z_s (z_s (z_s (z_s (z_s S 116 x2.toInt.toNat (u_nar 2 (S 137 ((((Int32.ofInt 12) * x1) + x2).toInt.toNat)))) 117 x2.toInt.toNat (S 138 ((((Int32.ofInt 12) * x1) + x2).toInt.toNat))) 118 x2.toInt.toNat (S 139 ((((Int32.ofInt 12) * x1) + x2).toInt.toNat))) 119 x2.toInt.toNat (S 140 ((((Int32.ofInt 12) * x1) + x2).toInt.toNat))) 120 x2.toInt.toNat (S 141 ((((Int32.ofInt 12) * x1) + x2).toInt.toNat))) 121 x2.toInt.toNat (S 142 ((((Int32.ofInt 12) * x1) + x2).toInt.toNat))) R _
        refine u_getr rfl v_tyM rfl ?_
        refine u_st rfl (fun _ => rfl) ?_
        show u_P L xs m d m_X12_bringsBack 97 [(3, .int (((Int32.ofInt 12) * x1) + x2)), (0, .ref 100), (1, .int x1), (2, .int x2)] [.int (((Int32.ofInt 12) * x1) + x2), .ref 144, .int x2, .ref 123] (z_s (z_s (z_s (z_s (z_s (z_s S 116 x2.toInt.toNat (u_nar 2 (S 137 ((((Int32.ofInt 12) * x1) + x2).toInt.toNat)))) 117 x2.toInt.toNat (S 138 ((((Int32.ofInt 12) * x1) + x2).toInt.toNat))) 118 x2.toInt.toNat (S 139 ((((Int32.ofInt 12) * x1) + x2).toInt.toNat))) 119 x2.toInt.toNat (S 140 ((((Int32.ofInt 12) * x1) + x2).toInt.toNat))) 120 x2.toInt.toNat (S 141 ((((Int32.ofInt 12) * x1) + x2).toInt.toNat))) 121 x2.toInt.toNat (S 142 ((((Int32.ofInt 12) * x1) + x2).toInt.toNat))) R _
        refine u_ialdE (v := S 143 ((((Int32.ofInt 12) * x1) + x2).toInt.toNat)) rfl rfl ((z_sn (fun h => absurd h.1 (by decide))).trans ((z_sn (fun h => absurd h.1 (by decide))).trans ((z_sn (fun h => absurd h.1 (by decide))).trans ((z_sn (fun h => absurd h.1 (by decide))).trans ((z_sn (fun h => absurd h.1 (by decide))).trans (z_sn (fun h => absurd h.1 (by decide)))))))) (fun b141 b142 => ?_)
        have hD := hD b141 b142
        show u_P L xs m d m_X12_bringsBack 98 [(3, .int (((Int32.ofInt 12) * x1) + x2)), (0, .ref 100), (1, .int x1), (2, .int x2)] [.int (S 143 ((((Int32.ofInt 12) * x1) + x2).toInt.toNat)), .int x2, .ref 123] (z_s (z_s (z_s (z_s (z_s (z_s S 116 x2.toInt.toNat (u_nar 2 (S 137 ((((Int32.ofInt 12) * x1) + x2).toInt.toNat)))) 117 x2.toInt.toNat (S 138 ((((Int32.ofInt 12) * x1) + x2).toInt.toNat))) 118 x2.toInt.toNat (S 139 ((((Int32.ofInt 12) * x1) + x2).toInt.toNat))) 119 x2.toInt.toNat (S 140 ((((Int32.ofInt 12) * x1) + x2).toInt.toNat))) 120 x2.toInt.toNat (S 141 ((((Int32.ofInt 12) * x1) + x2).toInt.toNat))) 121 x2.toInt.toNat (S 142 ((((Int32.ofInt 12) * x1) + x2).toInt.toNat))) R _
        refine u_iast rfl rfl (fun b151 b152 => ?_)
        have hD := hD b151 b152
        show u_P L xs m d m_X12_bringsBack 99 [(3, .int (((Int32.ofInt 12) * x1) + x2)), (0, .ref 100), (1, .int x1), (2, .int x2)] [] (z_s (z_s (z_s (z_s (z_s (z_s (z_s S 116 x2.toInt.toNat (u_nar 2 (S 137 ((((Int32.ofInt 12) * x1) + x2).toInt.toNat)))) 117 x2.toInt.toNat (S 138 ((((Int32.ofInt 12) * x1) + x2).toInt.toNat))) 118 x2.toInt.toNat (S 139 ((((Int32.ofInt 12) * x1) + x2).toInt.toNat))) 119 x2.toInt.toNat (S 140 ((((Int32.ofInt 12) * x1) + x2).toInt.toNat))) 120 x2.toInt.toNat (S 141 ((((Int32.ofInt 12) * x1) + x2).toInt.toNat))) 121 x2.toInt.toNat (S 142 ((((Int32.ofInt 12) * x1) + x2).toInt.toNat))) 122 x2.toInt.toNat (S 143 ((((Int32.ofInt 12) * x1) + x2).toInt.toNat))) R _
        refine u_st rfl (fun _ => rfl) ?_
        refine u_st rfl (fun _ => rfl) ?_
        refine u_lc (b := [(0, .ref 100), (1, .int x1), (2, .int (x2 + (Int32.ofInt 1))), (3, .int (((Int32.ofInt 12) * x1) + x2))]) (show ([2, 3, 0, 1] : List Nat).Nodup by decide) (show ([0, 1, 2, 3] : List Nat).Nodup by decide) (fun i => match i with | 0 => rfl | 1 => rfl | 2 => rfl | 3 => rfl | _ + 4 => rfl) ?_
        exact (ih m hm).2.1 d (((Int32.ofInt 12) * x1) + x2) x1 (x2 + (Int32.ofInt 1)) (z_s (z_s (z_s (z_s (z_s (z_s (z_s S 116 x2.toInt.toNat (u_nar 2 (S 137 ((((Int32.ofInt 12) * x1) + x2).toInt.toNat)))) 117 x2.toInt.toNat (S 138 ((((Int32.ofInt 12) * x1) + x2).toInt.toNat))) 118 x2.toInt.toNat (S 139 ((((Int32.ofInt 12) * x1) + x2).toInt.toNat))) 119 x2.toInt.toNat (S 140 ((((Int32.ofInt 12) * x1) + x2).toInt.toNat))) 120 x2.toInt.toNat (S 141 ((((Int32.ofInt 12) * x1) + x2).toInt.toNat))) 121 x2.toInt.toNat (S 142 ((((Int32.ofInt 12) * x1) + x2).toInt.toNat))) 122 x2.toInt.toNat (S 143 ((((Int32.ofInt 12) * x1) + x2).toInt.toNat))) hD
    · intro d x1 x2 S hD
      have hD := k107 x1 x2 S hD
      unfold D_X12_bringsBack_107 at hD
      show u_P L xs n d m_X12_bringsBack 107 [(0, .ref 100), (1, .int x1), (2, .int x2)] [] S R _
      refine u_st1 rfl (fun _ => rfl) (fun m hm => ?_)
      refine u_st rfl (fun _ => rfl) ?_
      show u_P L xs m d m_X12_bringsBack 109 [(0, .ref 100), (1, .int x1), (2, .int x2)] [.int (Int32.ofInt 5), .int x2] S R _
      refine u_ic_ge rfl (fun h1 => ?_) (fun h1 => ?_)
      · have hD := hD.1 h1
        show u_P L xs m d m_X12_bringsBack 166 [(0, .ref 100), (1, .int x1), (2, .int x2)] [] S R _
        refine u_st rfl (fun _ => rfl) ?_
        refine u_st rfl (fun _ => rfl) ?_
        refine u_lc (b := [(0, .ref 100), (1, .int x1), (2, .int (Int32.ofInt 0))]) (show ([2, 0, 1] : List Nat).Nodup by decide) (show ([0, 1, 2] : List Nat).Nodup by decide) (fun i => match i with | 0 => rfl | 1 => rfl | 2 => rfl | _ + 3 => rfl) ?_
        exact (ih m hm).2.2.2.2.1 d x1 (Int32.ofInt 0) S hD
      · have hD := hD.2 h1
        show u_P L xs m d m_X12_bringsBack 112 [(0, .ref 100), (1, .int x1), (2, .int x2)] [] S R _
        refine u_st rfl (fun _ => rfl) ?_
        show u_P L xs m d m_X12_bringsBack 113 [(0, .ref 100), (1, .int x1), (2, .int x2)] [.ref 100] S R _
        refine u_getr rfl v_tyM rfl ?_
        refine u_st rfl (fun _ => rfl) ?_
        refine u_st rfl (fun _ => rfl) ?_
        show u_P L xs m d m_X12_bringsBack 118 [(0, .ref 100), (1, .int x1), (2, .int x2)] [.ref 100, .int x2, .ref 130] S R _
        refine u_getr rfl v_tyM rfl ?_
        refine u_st rfl (fun _ => rfl) ?_
        refine u_st rfl (fun _ => rfl) ?_
        refine u_st rfl (fun _ => rfl) ?_
        refine u_st rfl (fun _ => rfl) ?_
        refine u_st rfl (fun _ => rfl) ?_
        show u_P L xs m d m_X12_bringsBack 126 [(0, .ref 100), (1, .int x1), (2, .int x2)] [.int (((Int32.ofInt 5) * x1) + x2), .ref 145, .int x2, .ref 130] S R _
        refine u_baldE (v := S 144 ((((Int32.ofInt 5) * x1) + x2).toInt.toNat)) rfl rfl (by decide) rfl (fun b21 b22 => ?_)
        have hD := hD b21 b22
        show u_P L xs m d m_X12_bringsBack 127 [(0, .ref 100), (1, .int x1), (2, .int x2)] [.int (S 144 ((((Int32.ofInt 5) * x1) + x2).toInt.toNat)), .int x2, .ref 130] S R _
        refine u_bast rfl rfl (by decide) (fun b31 b32 => ?_)
        have hD := hD b31 b32
        show u_P L xs m d m_X12_bringsBack 128 [(0, .ref 100), (1, .int x1), (2, .int x2)] [] (z_s S 129 x2.toInt.toNat (u_nar 2 (S 144 ((((Int32.ofInt 5) * x1) + x2).toInt.toNat)))) R _
        refine u_st rfl (fun _ => rfl) ?_
        show u_P L xs m d m_X12_bringsBack 129 [(0, .ref 100), (1, .int x1), (2, .int x2)] [.ref 100] (z_s S 129 x2.toInt.toNat (u_nar 2 (S 144 ((((Int32.ofInt 5) * x1) + x2).toInt.toNat)))) R _
        refine u_getr rfl v_tyM rfl ?_
        refine u_st rfl (fun _ => rfl) ?_
        refine u_st rfl (fun _ => rfl) ?_
        show u_P L xs m d m_X12_bringsBack 134 [(0, .ref 100), (1, .int x1), (2, .int x2)] [.ref 100, .int x2, .ref 131] (z_s S 129 x2.toInt.toNat (u_nar 2 (S 144 ((((Int32.ofInt 5) * x1) + x2).toInt.toNat)))) R _
        refine u_getr rfl v_tyM rfl ?_
        refine u_st rfl (fun _ => rfl) ?_
        refine u_st rfl (fun _ => rfl) ?_
        refine u_st rfl (fun _ => rfl) ?_
        refine u_st rfl (fun _ => rfl) ?_
        refine u_st rfl (fun _ => rfl) ?_
        show u_P L xs m d m_X12_bringsBack 142 [(0, .ref 100), (1, .int x1), (2, .int x2)] [.int (((Int32.ofInt 5) * x1) + x2), .ref 146, .int x2, .ref 131] (z_s S 129 x2.toInt.toNat (u_nar 2 (S 144 ((((Int32.ofInt 5) * x1) + x2).toInt.toNat)))) R _
        refine u_ialdE (v := S 145 ((((Int32.ofInt 5) * x1) + x2).toInt.toNat)) rfl rfl (z_sn (fun h => absurd h.1 (by decide))) (fun b41 b42 => ?_)
        have hD := hD b41 b42
        show u_P L xs m d m_X12_bringsBack 143 [(0, .ref 100), (1, .int x1), (2, .int x2)] [.int (S 145 ((((Int32.ofInt 5) * x1) + x2).toInt.toNat)), .int x2, .ref 131] (z_s S 129 x2.toInt.toNat (u_nar 2 (S 144 ((((Int32.ofInt 5) * x1) + x2).toInt.toNat)))) R _
        refine u_iast rfl rfl (fun b51 b52 => ?_)
        have hD := hD b51 b52
        show u_P L xs m d m_X12_bringsBack 144 [(0, .ref 100), (1, .int x1), (2, .int x2)] [] (z_s (z_s S 129 x2.toInt.toNat (u_nar 2 (S 144 ((((Int32.ofInt 5) * x1) + x2).toInt.toNat)))) 130 x2.toInt.toNat (S 145 ((((Int32.ofInt 5) * x1) + x2).toInt.toNat))) R _
        refine u_st rfl (fun _ => rfl) ?_
        show u_P L xs m d m_X12_bringsBack 145 [(0, .ref 100), (1, .int x1), (2, .int x2)] [.ref 100] (z_s (z_s S 129 x2.toInt.toNat (u_nar 2 (S 144 ((((Int32.ofInt 5) * x1) + x2).toInt.toNat)))) 130 x2.toInt.toNat (S 145 ((((Int32.ofInt 5) * x1) + x2).toInt.toNat))) R _
        refine u_getr rfl v_tyM rfl ?_
        refine u_st rfl (fun _ => rfl) ?_
        refine u_st rfl (fun _ => rfl) ?_
        show u_P L xs m d m_X12_bringsBack 150 [(0, .ref 100), (1, .int x1), (2, .int x2)] [.ref 100, .int x2, .ref 132] (z_s (z_s S 129 x2.toInt.toNat (u_nar 2 (S 144 ((((Int32.ofInt 5) * x1) + x2).toInt.toNat)))) 130 x2.toInt.toNat (S 145 ((((Int32.ofInt 5) * x1) + x2).toInt.toNat))) R _
        refine u_getr rfl v_tyM rfl ?_
        refine u_st rfl (fun _ => rfl) ?_
        refine u_st rfl (fun _ => rfl) ?_
        refine u_st rfl (fun _ => rfl) ?_
        refine u_st rfl (fun _ => rfl) ?_
        refine u_st rfl (fun _ => rfl) ?_
        show u_P L xs m d m_X12_bringsBack 158 [(0, .ref 100), (1, .int x1), (2, .int x2)] [.int (((Int32.ofInt 5) * x1) + x2), .ref 147, .int x2, .ref 132] (z_s (z_s S 129 x2.toInt.toNat (u_nar 2 (S 144 ((((Int32.ofInt 5) * x1) + x2).toInt.toNat)))) 130 x2.toInt.toNat (S 145 ((((Int32.ofInt 5) * x1) + x2).toInt.toNat))) R _
        refine u_ialdE (v := S 146 ((((Int32.ofInt 5) * x1) + x2).toInt.toNat)) rfl rfl ((z_sn (fun h => absurd h.1 (by decide))).trans (z_sn (fun h => absurd h.1 (by decide)))) (fun b61 b62 => ?_)
        have hD := hD b61 b62
        show u_P L xs m d m_X12_bringsBack 159 [(0, .ref 100), (1, .int x1), (2, .int x2)] [.int (S 146 ((((Int32.ofInt 5) * x1) + x2).toInt.toNat)), .int x2, .ref 132] (z_s (z_s S 129 x2.toInt.toNat (u_nar 2 (S 144 ((((Int32.ofInt 5) * x1) + x2).toInt.toNat)))) 130 x2.toInt.toNat (S 145 ((((Int32.ofInt 5) * x1) + x2).toInt.toNat))) R _
        refine u_iast rfl rfl (fun b71 b72 => ?_)
        have hD := hD b71 b72
        show u_P L xs m d m_X12_bringsBack 160 [(0, .ref 100), (1, .int x1), (2, .int x2)] [] (z_s (z_s (z_s S 129 x2.toInt.toNat (u_nar 2 (S 144 ((((Int32.ofInt 5) * x1) + x2).toInt.toNat)))) 130 x2.toInt.toNat (S 145 ((((Int32.ofInt 5) * x1) + x2).toInt.toNat))) 131 x2.toInt.toNat (S 146 ((((Int32.ofInt 5) * x1) + x2).toInt.toNat))) R _
        refine u_st rfl (fun _ => rfl) ?_
        refine u_st rfl (fun _ => rfl) ?_
        refine u_lc (b := [(0, .ref 100), (1, .int x1), (2, .int (x2 + (Int32.ofInt 1)))]) (show ([2, 0, 1] : List Nat).Nodup by decide) (show ([0, 1, 2] : List Nat).Nodup by decide) (fun i => match i with | 0 => rfl | 1 => rfl | 2 => rfl | _ + 3 => rfl) ?_
        exact (ih m hm).2.2.1 d x1 (x2 + (Int32.ofInt 1)) (z_s (z_s (z_s S 129 x2.toInt.toNat (u_nar 2 (S 144 ((((Int32.ofInt 5) * x1) + x2).toInt.toNat)))) 130 x2.toInt.toNat (S 145 ((((Int32.ofInt 5) * x1) + x2).toInt.toNat))) 131 x2.toInt.toNat (S 146 ((((Int32.ofInt 5) * x1) + x2).toInt.toNat))) hD
    · intro d j3 x1 x2 S hD
      have hD := k107 x1 x2 S hD
      unfold D_X12_bringsBack_107 at hD
      show u_P L xs n d m_X12_bringsBack 107 [(0, .ref 100), (1, .int x1), (2, .int x2), (3, .int j3)] [] S R _
      refine u_st1 rfl (fun _ => rfl) (fun m hm => ?_)
      refine u_st rfl (fun _ => rfl) ?_
      show u_P L xs m d m_X12_bringsBack 109 [(0, .ref 100), (1, .int x1), (2, .int x2), (3, .int j3)] [.int (Int32.ofInt 5), .int x2] S R _
      refine u_ic_ge rfl (fun h1 => ?_) (fun h1 => ?_)
      · have hD := hD.1 h1
        show u_P L xs m d m_X12_bringsBack 166 [(0, .ref 100), (1, .int x1), (2, .int x2), (3, .int j3)] [] S R _
        refine u_st rfl (fun _ => rfl) ?_
        refine u_st rfl (fun _ => rfl) ?_
        refine u_lc (b := [(0, .ref 100), (1, .int x1), (2, .int (Int32.ofInt 0)), (3, .int j3)]) (show ([2, 0, 1, 3] : List Nat).Nodup by decide) (show ([0, 1, 2, 3] : List Nat).Nodup by decide) (fun i => match i with | 0 => rfl | 1 => rfl | 2 => rfl | 3 => rfl | _ + 4 => rfl) ?_
        exact (ih m hm).2.2.2.2.2 d j3 x1 (Int32.ofInt 0) S hD
      · have hD := hD.2 h1
        show u_P L xs m d m_X12_bringsBack 112 [(0, .ref 100), (1, .int x1), (2, .int x2), (3, .int j3)] [] S R _
        refine u_st rfl (fun _ => rfl) ?_
        show u_P L xs m d m_X12_bringsBack 113 [(0, .ref 100), (1, .int x1), (2, .int x2), (3, .int j3)] [.ref 100] S R _
        refine u_getr rfl v_tyM rfl ?_
        refine u_st rfl (fun _ => rfl) ?_
        refine u_st rfl (fun _ => rfl) ?_
        show u_P L xs m d m_X12_bringsBack 118 [(0, .ref 100), (1, .int x1), (2, .int x2), (3, .int j3)] [.ref 100, .int x2, .ref 130] S R _
        refine u_getr rfl v_tyM rfl ?_
        refine u_st rfl (fun _ => rfl) ?_
        refine u_st rfl (fun _ => rfl) ?_
        refine u_st rfl (fun _ => rfl) ?_
        refine u_st rfl (fun _ => rfl) ?_
        refine u_st rfl (fun _ => rfl) ?_
        show u_P L xs m d m_X12_bringsBack 126 [(0, .ref 100), (1, .int x1), (2, .int x2), (3, .int j3)] [.int (((Int32.ofInt 5) * x1) + x2), .ref 145, .int x2, .ref 130] S R _
        refine u_baldE (v := S 144 ((((Int32.ofInt 5) * x1) + x2).toInt.toNat)) rfl rfl (by decide) rfl (fun b21 b22 => ?_)
        have hD := hD b21 b22
        show u_P L xs m d m_X12_bringsBack 127 [(0, .ref 100), (1, .int x1), (2, .int x2), (3, .int j3)] [.int (S 144 ((((Int32.ofInt 5) * x1) + x2).toInt.toNat)), .int x2, .ref 130] S R _
        refine u_bast rfl rfl (by decide) (fun b31 b32 => ?_)
        have hD := hD b31 b32
        show u_P L xs m d m_X12_bringsBack 128 [(0, .ref 100), (1, .int x1), (2, .int x2), (3, .int j3)] [] (z_s S 129 x2.toInt.toNat (u_nar 2 (S 144 ((((Int32.ofInt 5) * x1) + x2).toInt.toNat)))) R _
        refine u_st rfl (fun _ => rfl) ?_
        show u_P L xs m d m_X12_bringsBack 129 [(0, .ref 100), (1, .int x1), (2, .int x2), (3, .int j3)] [.ref 100] (z_s S 129 x2.toInt.toNat (u_nar 2 (S 144 ((((Int32.ofInt 5) * x1) + x2).toInt.toNat)))) R _
        refine u_getr rfl v_tyM rfl ?_
        refine u_st rfl (fun _ => rfl) ?_
        refine u_st rfl (fun _ => rfl) ?_
        show u_P L xs m d m_X12_bringsBack 134 [(0, .ref 100), (1, .int x1), (2, .int x2), (3, .int j3)] [.ref 100, .int x2, .ref 131] (z_s S 129 x2.toInt.toNat (u_nar 2 (S 144 ((((Int32.ofInt 5) * x1) + x2).toInt.toNat)))) R _
        refine u_getr rfl v_tyM rfl ?_
        refine u_st rfl (fun _ => rfl) ?_
        refine u_st rfl (fun _ => rfl) ?_
        refine u_st rfl (fun _ => rfl) ?_
        refine u_st rfl (fun _ => rfl) ?_
        refine u_st rfl (fun _ => rfl) ?_
        show u_P L xs m d m_X12_bringsBack 142 [(0, .ref 100), (1, .int x1), (2, .int x2), (3, .int j3)] [.int (((Int32.ofInt 5) * x1) + x2), .ref 146, .int x2, .ref 131] (z_s S 129 x2.toInt.toNat (u_nar 2 (S 144 ((((Int32.ofInt 5) * x1) + x2).toInt.toNat)))) R _
        refine u_ialdE (v := S 145 ((((Int32.ofInt 5) * x1) + x2).toInt.toNat)) rfl rfl (z_sn (fun h => absurd h.1 (by decide))) (fun b41 b42 => ?_)
        have hD := hD b41 b42
        show u_P L xs m d m_X12_bringsBack 143 [(0, .ref 100), (1, .int x1), (2, .int x2), (3, .int j3)] [.int (S 145 ((((Int32.ofInt 5) * x1) + x2).toInt.toNat)), .int x2, .ref 131] (z_s S 129 x2.toInt.toNat (u_nar 2 (S 144 ((((Int32.ofInt 5) * x1) + x2).toInt.toNat)))) R _
        refine u_iast rfl rfl (fun b51 b52 => ?_)
        have hD := hD b51 b52
        show u_P L xs m d m_X12_bringsBack 144 [(0, .ref 100), (1, .int x1), (2, .int x2), (3, .int j3)] [] (z_s (z_s S 129 x2.toInt.toNat (u_nar 2 (S 144 ((((Int32.ofInt 5) * x1) + x2).toInt.toNat)))) 130 x2.toInt.toNat (S 145 ((((Int32.ofInt 5) * x1) + x2).toInt.toNat))) R _
        refine u_st rfl (fun _ => rfl) ?_
        show u_P L xs m d m_X12_bringsBack 145 [(0, .ref 100), (1, .int x1), (2, .int x2), (3, .int j3)] [.ref 100] (z_s (z_s S 129 x2.toInt.toNat (u_nar 2 (S 144 ((((Int32.ofInt 5) * x1) + x2).toInt.toNat)))) 130 x2.toInt.toNat (S 145 ((((Int32.ofInt 5) * x1) + x2).toInt.toNat))) R _
        refine u_getr rfl v_tyM rfl ?_
        refine u_st rfl (fun _ => rfl) ?_
        refine u_st rfl (fun _ => rfl) ?_
        show u_P L xs m d m_X12_bringsBack 150 [(0, .ref 100), (1, .int x1), (2, .int x2), (3, .int j3)] [.ref 100, .int x2, .ref 132] (z_s (z_s S 129 x2.toInt.toNat (u_nar 2 (S 144 ((((Int32.ofInt 5) * x1) + x2).toInt.toNat)))) 130 x2.toInt.toNat (S 145 ((((Int32.ofInt 5) * x1) + x2).toInt.toNat))) R _
        refine u_getr rfl v_tyM rfl ?_
        refine u_st rfl (fun _ => rfl) ?_
        refine u_st rfl (fun _ => rfl) ?_
        refine u_st rfl (fun _ => rfl) ?_
        refine u_st rfl (fun _ => rfl) ?_
        refine u_st rfl (fun _ => rfl) ?_
        show u_P L xs m d m_X12_bringsBack 158 [(0, .ref 100), (1, .int x1), (2, .int x2), (3, .int j3)] [.int (((Int32.ofInt 5) * x1) + x2), .ref 147, .int x2, .ref 132] (z_s (z_s S 129 x2.toInt.toNat (u_nar 2 (S 144 ((((Int32.ofInt 5) * x1) + x2).toInt.toNat)))) 130 x2.toInt.toNat (S 145 ((((Int32.ofInt 5) * x1) + x2).toInt.toNat))) R _
        refine u_ialdE (v := S 146 ((((Int32.ofInt 5) * x1) + x2).toInt.toNat)) rfl rfl ((z_sn (fun h => absurd h.1 (by decide))).trans (z_sn (fun h => absurd h.1 (by decide)))) (fun b61 b62 => ?_)
        have hD := hD b61 b62
        show u_P L xs m d m_X12_bringsBack 159 [(0, .ref 100), (1, .int x1), (2, .int x2), (3, .int j3)] [.int (S 146 ((((Int32.ofInt 5) * x1) + x2).toInt.toNat)), .int x2, .ref 132] (z_s (z_s S 129 x2.toInt.toNat (u_nar 2 (S 144 ((((Int32.ofInt 5) * x1) + x2).toInt.toNat)))) 130 x2.toInt.toNat (S 145 ((((Int32.ofInt 5) * x1) + x2).toInt.toNat))) R _
        refine u_iast rfl rfl (fun b71 b72 => ?_)
        have hD := hD b71 b72
        show u_P L xs m d m_X12_bringsBack 160 [(0, .ref 100), (1, .int x1), (2, .int x2), (3, .int j3)] [] (z_s (z_s (z_s S 129 x2.toInt.toNat (u_nar 2 (S 144 ((((Int32.ofInt 5) * x1) + x2).toInt.toNat)))) 130 x2.toInt.toNat (S 145 ((((Int32.ofInt 5) * x1) + x2).toInt.toNat))) 131 x2.toInt.toNat (S 146 ((((Int32.ofInt 5) * x1) + x2).toInt.toNat))) R _
        refine u_st rfl (fun _ => rfl) ?_
        refine u_st rfl (fun _ => rfl) ?_
        refine u_lc (b := [(0, .ref 100), (1, .int x1), (2, .int (x2 + (Int32.ofInt 1))), (3, .int j3)]) (show ([2, 0, 1, 3] : List Nat).Nodup by decide) (show ([0, 1, 2, 3] : List Nat).Nodup by decide) (fun i => match i with | 0 => rfl | 1 => rfl | 2 => rfl | 3 => rfl | _ + 4 => rfl) ?_
        exact (ih m hm).2.2.2.1 d j3 x1 (x2 + (Int32.ofInt 1)) (z_s (z_s (z_s S 129 x2.toInt.toNat (u_nar 2 (S 144 ((((Int32.ofInt 5) * x1) + x2).toInt.toNat)))) 130 x2.toInt.toNat (S 145 ((((Int32.ofInt 5) * x1) + x2).toInt.toNat))) 131 x2.toInt.toNat (S 146 ((((Int32.ofInt 5) * x1) + x2).toInt.toNat))) hD
    · intro d x1 x2 S hD
      have hD := k168 x1 x2 S hD
      unfold D_X12_bringsBack_168 at hD
      show u_P L xs n d m_X12_bringsBack 168 [(0, .ref 100), (1, .int x1), (2, .int x2)] [] S R _
      refine u_st1 rfl (fun _ => rfl) (fun m hm => ?_)
      refine u_st rfl (fun _ => rfl) ?_
      show u_P L xs m d m_X12_bringsBack 171 [(0, .ref 100), (1, .int x1), (2, .int x2)] [.int (Int32.ofInt 6), .int x2] S R _
      refine u_ic_ge rfl (fun h1 => ?_) (fun h1 => ?_)
      · have hD := hD.1 h1
        show u_P L xs m d m_X12_bringsBack 221 [(0, .ref 100), (1, .int x1), (2, .int x2)] [] S R _
        refine u_st rfl (fun _ => rfl) ?_
        refine u_st rfl (fun _ => rfl) ?_
        show u_P L xs m d m_X12_bringsBack 223 [(0, .ref 100), (1, .int x1), (2, .int x2)] [.ref 100, .ref 100] S R _
        refine u_getr rfl v_tyM rfl ?_
        refine u_st rfl (fun _ => rfl) ?_
        show u_P L xs m d m_X12_bringsBack 227 [(0, .ref 100), (1, .int x1), (2, .int x2)] [.int x1, .ref 149, .ref 100] S R _
        refine u_ialdE (v := S 148 x1.toInt.toNat) rfl rfl rfl (fun b21 b22 => ?_)
        have hD := hD b21 b22
        show u_P L xs m d m_X12_bringsBack 228 [(0, .ref 100), (1, .int x1), (2, .int x2)] [.int (S 148 x1.toInt.toNat), .ref 100] S R _
        refine u_put rfl v_tyM rfl ?_
        refine u_st rfl (fun _ => rfl) ?_
        refine u_st rfl (fun _ => rfl) ?_
        show u_P L xs m d m_X12_bringsBack 233 [(0, .ref 100), (1, .int x1), (2, .int x2)] [.ref 100, .ref 100] (z_s S 99 60 (S 148 x1.toInt.toNat)) R _
        refine u_getr rfl v_tyM rfl ?_
        refine u_st rfl (fun _ => rfl) ?_
        show u_P L xs m d m_X12_bringsBack 237 [(0, .ref 100), (1, .int x1), (2, .int x2)] [.int x1, .ref 150, .ref 100] (z_s S 99 60 (S 148 x1.toInt.toNat)) R _
        refine u_ialdE (v := S 149 x1.toInt.toNat) rfl rfl (z_sn (fun h => absurd h.1 (by decide))) (fun b31 b32 => ?_)
        have hD := hD b31 b32
        show u_P L xs m d m_X12_bringsBack 238 [(0, .ref 100), (1, .int x1), (2, .int x2)] [.int (S 149 x1.toInt.toNat), .ref 100] (z_s S 99 60 (S 148 x1.toInt.toNat)) R _
        refine u_put rfl v_tyM rfl ?_
        refine u_st rfl (fun _ => rfl) ?_
        refine u_st rfl (fun _ => rfl) ?_
        show u_P L xs m d m_X12_bringsBack 243 [(0, .ref 100), (1, .int x1), (2, .int x2)] [.ref 100, .ref 100] (z_s (z_s S 99 60 (S 148 x1.toInt.toNat)) 99 61 (S 149 x1.toInt.toNat)) R _
        refine u_getr rfl v_tyM rfl ?_
        refine u_st rfl (fun _ => rfl) ?_
        show u_P L xs m d m_X12_bringsBack 247 [(0, .ref 100), (1, .int x1), (2, .int x2)] [.int x1, .ref 151, .ref 100] (z_s (z_s S 99 60 (S 148 x1.toInt.toNat)) 99 61 (S 149 x1.toInt.toNat)) R _
        refine u_ialdE (v := S 150 x1.toInt.toNat) rfl rfl ((z_sn (fun h => absurd h.1 (by decide))).trans (z_sn (fun h => absurd h.1 (by decide)))) (fun b41 b42 => ?_)
        have hD := hD b41 b42
        show u_P L xs m d m_X12_bringsBack 248 [(0, .ref 100), (1, .int x1), (2, .int x2)] [.int (S 150 x1.toInt.toNat), .ref 100] (z_s (z_s S 99 60 (S 148 x1.toInt.toNat)) 99 61 (S 149 x1.toInt.toNat)) R _
        refine u_put rfl v_tyM rfl ?_
        refine u_st rfl (fun _ => rfl) ?_
        refine u_st rfl (fun _ => rfl) ?_
        show u_P L xs m d m_X12_bringsBack 253 [(0, .ref 100), (1, .int x1), (2, .int x2)] [.ref 100, .ref 100] (z_s (z_s (z_s S 99 60 (S 148 x1.toInt.toNat)) 99 61 (S 149 x1.toInt.toNat)) 99 62 (S 150 x1.toInt.toNat)) R _
        refine u_getr rfl v_tyM rfl ?_
        refine u_st rfl (fun _ => rfl) ?_
        show u_P L xs m d m_X12_bringsBack 257 [(0, .ref 100), (1, .int x1), (2, .int x2)] [.int x1, .ref 152, .ref 100] (z_s (z_s (z_s S 99 60 (S 148 x1.toInt.toNat)) 99 61 (S 149 x1.toInt.toNat)) 99 62 (S 150 x1.toInt.toNat)) R _
        refine u_ialdE (v := S 151 x1.toInt.toNat) rfl rfl ((z_sn (fun h => absurd h.1 (by decide))).trans ((z_sn (fun h => absurd h.1 (by decide))).trans (z_sn (fun h => absurd h.1 (by decide))))) (fun b51 b52 => ?_)
        have hD := hD b51 b52
        show u_P L xs m d m_X12_bringsBack 258 [(0, .ref 100), (1, .int x1), (2, .int x2)] [.int (S 151 x1.toInt.toNat), .ref 100] (z_s (z_s (z_s S 99 60 (S 148 x1.toInt.toNat)) 99 61 (S 149 x1.toInt.toNat)) 99 62 (S 150 x1.toInt.toNat)) R _
        refine u_put rfl v_tyM rfl ?_
        show u_P L xs m d m_X12_bringsBack 261 [(0, .ref 100), (1, .int x1), (2, .int x2)] [] (z_s (z_s (z_s (z_s S 99 60 (S 148 x1.toInt.toNat)) 99 61 (S 149 x1.toInt.toNat)) 99 62 (S 150 x1.toInt.toNat)) 99 2 (S 151 x1.toInt.toNat)) R _
        exact u_ret rfl rfl ⟨rfl, rfl, hD⟩
      · have hD := hD.2 h1
        show u_P L xs m d m_X12_bringsBack 174 [(0, .ref 100), (1, .int x1), (2, .int x2)] [] S R _
        refine u_st rfl (fun _ => rfl) ?_
        show u_P L xs m d m_X12_bringsBack 175 [(0, .ref 100), (1, .int x1), (2, .int x2)] [.ref 100] S R _
        refine u_getr rfl v_tyM rfl ?_
        refine u_st rfl (fun _ => rfl) ?_
        refine u_st rfl (fun _ => rfl) ?_
        show u_P L xs m d m_X12_bringsBack 180 [(0, .ref 100), (1, .int x1), (2, .int x2)] [.ref 100, .int x2, .ref 129] S R _
        refine u_getr rfl v_tyM rfl ?_
        refine u_st rfl (fun _ => rfl) ?_
        refine u_st rfl (fun _ => rfl) ?_
        refine u_st rfl (fun _ => rfl) ?_
        refine u_st rfl (fun _ => rfl) ?_
        refine u_st rfl (fun _ => rfl) ?_
        show u_P L xs m d m_X12_bringsBack 189 [(0, .ref 100), (1, .int x1), (2, .int x2)] [.int (((Int32.ofInt 6) * x1) + x2), .ref 148, .int x2, .ref 129] S R _
        refine u_ialdE (v := S 147 ((((Int32.ofInt 6) * x1) + x2).toInt.toNat)) rfl rfl rfl (fun b61 b62 => ?_)
        have hD := hD b61 b62
        show u_P L xs m d m_X12_bringsBack 190 [(0, .ref 100), (1, .int x1), (2, .int x2)] [.int (S 147 ((((Int32.ofInt 6) * x1) + x2).toInt.toNat)), .int x2, .ref 129] S R _
        refine u_st rfl (fun _ => rfl) ?_
        show u_P L xs m d m_X12_bringsBack 191 [(0, .ref 100), (1, .int x1), (2, .int x2)] [.ref 100, .int (S 147 ((((Int32.ofInt 6) * x1) + x2).toInt.toNat)), .int x2, .ref 129] S R _
        refine u_getr rfl v_tyM rfl ?_
        refine u_st rfl (fun _ => rfl) ?_
        show u_P L xs m d m_X12_bringsBack 195 [(0, .ref 100), (1, .int x1), (2, .int x2)] [.int x2, .ref 128, .int (S 147 ((((Int32.ofInt 6) * x1) + x2).toInt.toNat)), .int x2, .ref 129] S R _
        refine u_ialdE (v := S 127 x2.toInt.toNat) rfl rfl rfl (fun b71 b72 => ?_)
        have hD := hD b71 b72
        show u_P L xs m d m_X12_bringsBack 196 [(0, .ref 100), (1, .int x1), (2, .int x2)] [.int (S 127 x2.toInt.toNat), .int (S 147 ((((Int32.ofInt 6) * x1) + x2).toInt.toNat)), .int x2, .ref 129] S R _
        refine u_ic_ge rfl (fun h8 => ?_) (fun h8 => ?_)
        · have hD := hD.1 h8
          show u_P L xs m d m_X12_bringsBack 213 [(0, .ref 100), (1, .int x1), (2, .int x2)] [.int x2, .ref 129] S R _
          refine u_st rfl (fun _ => rfl) ?_
          show u_P L xs m d m_X12_bringsBack 214 [(0, .ref 100), (1, .int x1), (2, .int x2)] [.int (Int32.ofInt 0), .int x2, .ref 129] S R _
          refine u_iast rfl rfl (fun b91 b92 => ?_)
          have hD := hD b91 b92
          show u_P L xs m d m_X12_bringsBack 215 [(0, .ref 100), (1, .int x1), (2, .int x2)] [] (z_s S 128 x2.toInt.toNat (Int32.ofInt 0)) R _
          refine u_st rfl (fun _ => rfl) ?_
          refine u_st rfl (fun _ => rfl) ?_
          refine u_lc (b := [(0, .ref 100), (1, .int x1), (2, .int (x2 + (Int32.ofInt 1)))]) (show ([2, 0, 1] : List Nat).Nodup by decide) (show ([0, 1, 2] : List Nat).Nodup by decide) (fun i => match i with | 0 => rfl | 1 => rfl | 2 => rfl | _ + 3 => rfl) ?_
          exact (ih m hm).2.2.2.2.1 d x1 (x2 + (Int32.ofInt 1)) (z_s S 128 x2.toInt.toNat (Int32.ofInt 0)) hD
        · have hD := hD.2 h8
          show u_P L xs m d m_X12_bringsBack 199 [(0, .ref 100), (1, .int x1), (2, .int x2)] [.int x2, .ref 129] S R _
          refine u_st rfl (fun _ => rfl) ?_
          show u_P L xs m d m_X12_bringsBack 200 [(0, .ref 100), (1, .int x1), (2, .int x2)] [.ref 100, .int x2, .ref 129] S R _
          refine u_getr rfl v_tyM rfl ?_
          refine u_st rfl (fun _ => rfl) ?_
          refine u_st rfl (fun _ => rfl) ?_
          refine u_st rfl (fun _ => rfl) ?_
          refine u_st rfl (fun _ => rfl) ?_
          refine u_st rfl (fun _ => rfl) ?_
          show u_P L xs m d m_X12_bringsBack 209 [(0, .ref 100), (1, .int x1), (2, .int x2)] [.int (((Int32.ofInt 6) * x1) + x2), .ref 148, .int x2, .ref 129] S R _
          refine u_ialdE (v := S 147 ((((Int32.ofInt 6) * x1) + x2).toInt.toNat)) rfl rfl rfl (fun b101 b102 => ?_)
          have hD := hD b101 b102
          show u_P L xs m d m_X12_bringsBack 210 [(0, .ref 100), (1, .int x1), (2, .int x2)] [.int (S 147 ((((Int32.ofInt 6) * x1) + x2).toInt.toNat)), .int x2, .ref 129] S R _
          refine u_st rfl (fun _ => rfl) ?_
          show u_P L xs m d m_X12_bringsBack 214 [(0, .ref 100), (1, .int x1), (2, .int x2)] [.int (S 147 ((((Int32.ofInt 6) * x1) + x2).toInt.toNat)), .int x2, .ref 129] S R _
          refine u_iast rfl rfl (fun b111 b112 => ?_)
          have hD := hD b111 b112
          show u_P L xs m d m_X12_bringsBack 215 [(0, .ref 100), (1, .int x1), (2, .int x2)] [] (z_s S 128 x2.toInt.toNat (S 147 ((((Int32.ofInt 6) * x1) + x2).toInt.toNat))) R _
          refine u_st rfl (fun _ => rfl) ?_
          refine u_st rfl (fun _ => rfl) ?_
          refine u_lc (b := [(0, .ref 100), (1, .int x1), (2, .int (x2 + (Int32.ofInt 1)))]) (show ([2, 0, 1] : List Nat).Nodup by decide) (show ([0, 1, 2] : List Nat).Nodup by decide) (fun i => match i with | 0 => rfl | 1 => rfl | 2 => rfl | _ + 3 => rfl) ?_
          exact (ih m hm).2.2.2.2.1 d x1 (x2 + (Int32.ofInt 1)) (z_s S 128 x2.toInt.toNat (S 147 ((((Int32.ofInt 6) * x1) + x2).toInt.toNat))) hD
    · intro d j3 x1 x2 S hD
      have hD := k168 x1 x2 S hD
      unfold D_X12_bringsBack_168 at hD
      show u_P L xs n d m_X12_bringsBack 168 [(0, .ref 100), (1, .int x1), (2, .int x2), (3, .int j3)] [] S R _
      refine u_st1 rfl (fun _ => rfl) (fun m hm => ?_)
      refine u_st rfl (fun _ => rfl) ?_
      show u_P L xs m d m_X12_bringsBack 171 [(0, .ref 100), (1, .int x1), (2, .int x2), (3, .int j3)] [.int (Int32.ofInt 6), .int x2] S R _
      refine u_ic_ge rfl (fun h1 => ?_) (fun h1 => ?_)
      · have hD := hD.1 h1
        show u_P L xs m d m_X12_bringsBack 221 [(0, .ref 100), (1, .int x1), (2, .int x2), (3, .int j3)] [] S R _
        refine u_st rfl (fun _ => rfl) ?_
        refine u_st rfl (fun _ => rfl) ?_
        show u_P L xs m d m_X12_bringsBack 223 [(0, .ref 100), (1, .int x1), (2, .int x2), (3, .int j3)] [.ref 100, .ref 100] S R _
        refine u_getr rfl v_tyM rfl ?_
        refine u_st rfl (fun _ => rfl) ?_
        show u_P L xs m d m_X12_bringsBack 227 [(0, .ref 100), (1, .int x1), (2, .int x2), (3, .int j3)] [.int x1, .ref 149, .ref 100] S R _
        refine u_ialdE (v := S 148 x1.toInt.toNat) rfl rfl rfl (fun b21 b22 => ?_)
        have hD := hD b21 b22
        show u_P L xs m d m_X12_bringsBack 228 [(0, .ref 100), (1, .int x1), (2, .int x2), (3, .int j3)] [.int (S 148 x1.toInt.toNat), .ref 100] S R _
        refine u_put rfl v_tyM rfl ?_
        refine u_st rfl (fun _ => rfl) ?_
        refine u_st rfl (fun _ => rfl) ?_
        show u_P L xs m d m_X12_bringsBack 233 [(0, .ref 100), (1, .int x1), (2, .int x2), (3, .int j3)] [.ref 100, .ref 100] (z_s S 99 60 (S 148 x1.toInt.toNat)) R _
        refine u_getr rfl v_tyM rfl ?_
        refine u_st rfl (fun _ => rfl) ?_
        show u_P L xs m d m_X12_bringsBack 237 [(0, .ref 100), (1, .int x1), (2, .int x2), (3, .int j3)] [.int x1, .ref 150, .ref 100] (z_s S 99 60 (S 148 x1.toInt.toNat)) R _
        refine u_ialdE (v := S 149 x1.toInt.toNat) rfl rfl (z_sn (fun h => absurd h.1 (by decide))) (fun b31 b32 => ?_)
        have hD := hD b31 b32
        show u_P L xs m d m_X12_bringsBack 238 [(0, .ref 100), (1, .int x1), (2, .int x2), (3, .int j3)] [.int (S 149 x1.toInt.toNat), .ref 100] (z_s S 99 60 (S 148 x1.toInt.toNat)) R _
        refine u_put rfl v_tyM rfl ?_
        refine u_st rfl (fun _ => rfl) ?_
        refine u_st rfl (fun _ => rfl) ?_
        show u_P L xs m d m_X12_bringsBack 243 [(0, .ref 100), (1, .int x1), (2, .int x2), (3, .int j3)] [.ref 100, .ref 100] (z_s (z_s S 99 60 (S 148 x1.toInt.toNat)) 99 61 (S 149 x1.toInt.toNat)) R _
        refine u_getr rfl v_tyM rfl ?_
        refine u_st rfl (fun _ => rfl) ?_
        show u_P L xs m d m_X12_bringsBack 247 [(0, .ref 100), (1, .int x1), (2, .int x2), (3, .int j3)] [.int x1, .ref 151, .ref 100] (z_s (z_s S 99 60 (S 148 x1.toInt.toNat)) 99 61 (S 149 x1.toInt.toNat)) R _
        refine u_ialdE (v := S 150 x1.toInt.toNat) rfl rfl ((z_sn (fun h => absurd h.1 (by decide))).trans (z_sn (fun h => absurd h.1 (by decide)))) (fun b41 b42 => ?_)
        have hD := hD b41 b42
        show u_P L xs m d m_X12_bringsBack 248 [(0, .ref 100), (1, .int x1), (2, .int x2), (3, .int j3)] [.int (S 150 x1.toInt.toNat), .ref 100] (z_s (z_s S 99 60 (S 148 x1.toInt.toNat)) 99 61 (S 149 x1.toInt.toNat)) R _
        refine u_put rfl v_tyM rfl ?_
        refine u_st rfl (fun _ => rfl) ?_
        refine u_st rfl (fun _ => rfl) ?_
        show u_P L xs m d m_X12_bringsBack 253 [(0, .ref 100), (1, .int x1), (2, .int x2), (3, .int j3)] [.ref 100, .ref 100] (z_s (z_s (z_s S 99 60 (S 148 x1.toInt.toNat)) 99 61 (S 149 x1.toInt.toNat)) 99 62 (S 150 x1.toInt.toNat)) R _
        refine u_getr rfl v_tyM rfl ?_
        refine u_st rfl (fun _ => rfl) ?_
        show u_P L xs m d m_X12_bringsBack 257 [(0, .ref 100), (1, .int x1), (2, .int x2), (3, .int j3)] [.int x1, .ref 152, .ref 100] (z_s (z_s (z_s S 99 60 (S 148 x1.toInt.toNat)) 99 61 (S 149 x1.toInt.toNat)) 99 62 (S 150 x1.toInt.toNat)) R _
        refine u_ialdE (v := S 151 x1.toInt.toNat) rfl rfl ((z_sn (fun h => absurd h.1 (by decide))).trans ((z_sn (fun h => absurd h.1 (by decide))).trans (z_sn (fun h => absurd h.1 (by decide))))) (fun b51 b52 => ?_)
        have hD := hD b51 b52
        show u_P L xs m d m_X12_bringsBack 258 [(0, .ref 100), (1, .int x1), (2, .int x2), (3, .int j3)] [.int (S 151 x1.toInt.toNat), .ref 100] (z_s (z_s (z_s S 99 60 (S 148 x1.toInt.toNat)) 99 61 (S 149 x1.toInt.toNat)) 99 62 (S 150 x1.toInt.toNat)) R _
        refine u_put rfl v_tyM rfl ?_
        show u_P L xs m d m_X12_bringsBack 261 [(0, .ref 100), (1, .int x1), (2, .int x2), (3, .int j3)] [] (z_s (z_s (z_s (z_s S 99 60 (S 148 x1.toInt.toNat)) 99 61 (S 149 x1.toInt.toNat)) 99 62 (S 150 x1.toInt.toNat)) 99 2 (S 151 x1.toInt.toNat)) R _
        exact u_ret rfl rfl ⟨rfl, rfl, hD⟩
      · have hD := hD.2 h1
        show u_P L xs m d m_X12_bringsBack 174 [(0, .ref 100), (1, .int x1), (2, .int x2), (3, .int j3)] [] S R _
        refine u_st rfl (fun _ => rfl) ?_
        show u_P L xs m d m_X12_bringsBack 175 [(0, .ref 100), (1, .int x1), (2, .int x2), (3, .int j3)] [.ref 100] S R _
        refine u_getr rfl v_tyM rfl ?_
        refine u_st rfl (fun _ => rfl) ?_
        refine u_st rfl (fun _ => rfl) ?_
        show u_P L xs m d m_X12_bringsBack 180 [(0, .ref 100), (1, .int x1), (2, .int x2), (3, .int j3)] [.ref 100, .int x2, .ref 129] S R _
        refine u_getr rfl v_tyM rfl ?_
        refine u_st rfl (fun _ => rfl) ?_
        refine u_st rfl (fun _ => rfl) ?_
        refine u_st rfl (fun _ => rfl) ?_
        refine u_st rfl (fun _ => rfl) ?_
        refine u_st rfl (fun _ => rfl) ?_
        show u_P L xs m d m_X12_bringsBack 189 [(0, .ref 100), (1, .int x1), (2, .int x2), (3, .int j3)] [.int (((Int32.ofInt 6) * x1) + x2), .ref 148, .int x2, .ref 129] S R _
        refine u_ialdE (v := S 147 ((((Int32.ofInt 6) * x1) + x2).toInt.toNat)) rfl rfl rfl (fun b61 b62 => ?_)
        have hD := hD b61 b62
        show u_P L xs m d m_X12_bringsBack 190 [(0, .ref 100), (1, .int x1), (2, .int x2), (3, .int j3)] [.int (S 147 ((((Int32.ofInt 6) * x1) + x2).toInt.toNat)), .int x2, .ref 129] S R _
        refine u_st rfl (fun _ => rfl) ?_
        show u_P L xs m d m_X12_bringsBack 191 [(0, .ref 100), (1, .int x1), (2, .int x2), (3, .int j3)] [.ref 100, .int (S 147 ((((Int32.ofInt 6) * x1) + x2).toInt.toNat)), .int x2, .ref 129] S R _
        refine u_getr rfl v_tyM rfl ?_
        refine u_st rfl (fun _ => rfl) ?_
        show u_P L xs m d m_X12_bringsBack 195 [(0, .ref 100), (1, .int x1), (2, .int x2), (3, .int j3)] [.int x2, .ref 128, .int (S 147 ((((Int32.ofInt 6) * x1) + x2).toInt.toNat)), .int x2, .ref 129] S R _
        refine u_ialdE (v := S 127 x2.toInt.toNat) rfl rfl rfl (fun b71 b72 => ?_)
        have hD := hD b71 b72
        show u_P L xs m d m_X12_bringsBack 196 [(0, .ref 100), (1, .int x1), (2, .int x2), (3, .int j3)] [.int (S 127 x2.toInt.toNat), .int (S 147 ((((Int32.ofInt 6) * x1) + x2).toInt.toNat)), .int x2, .ref 129] S R _
        refine u_ic_ge rfl (fun h8 => ?_) (fun h8 => ?_)
        · have hD := hD.1 h8
          show u_P L xs m d m_X12_bringsBack 213 [(0, .ref 100), (1, .int x1), (2, .int x2), (3, .int j3)] [.int x2, .ref 129] S R _
          refine u_st rfl (fun _ => rfl) ?_
          show u_P L xs m d m_X12_bringsBack 214 [(0, .ref 100), (1, .int x1), (2, .int x2), (3, .int j3)] [.int (Int32.ofInt 0), .int x2, .ref 129] S R _
          refine u_iast rfl rfl (fun b91 b92 => ?_)
          have hD := hD b91 b92
          show u_P L xs m d m_X12_bringsBack 215 [(0, .ref 100), (1, .int x1), (2, .int x2), (3, .int j3)] [] (z_s S 128 x2.toInt.toNat (Int32.ofInt 0)) R _
          refine u_st rfl (fun _ => rfl) ?_
          refine u_st rfl (fun _ => rfl) ?_
          refine u_lc (b := [(0, .ref 100), (1, .int x1), (2, .int (x2 + (Int32.ofInt 1))), (3, .int j3)]) (show ([2, 0, 1, 3] : List Nat).Nodup by decide) (show ([0, 1, 2, 3] : List Nat).Nodup by decide) (fun i => match i with | 0 => rfl | 1 => rfl | 2 => rfl | 3 => rfl | _ + 4 => rfl) ?_
          exact (ih m hm).2.2.2.2.2 d j3 x1 (x2 + (Int32.ofInt 1)) (z_s S 128 x2.toInt.toNat (Int32.ofInt 0)) hD
        · have hD := hD.2 h8
          show u_P L xs m d m_X12_bringsBack 199 [(0, .ref 100), (1, .int x1), (2, .int x2), (3, .int j3)] [.int x2, .ref 129] S R _
          refine u_st rfl (fun _ => rfl) ?_
          show u_P L xs m d m_X12_bringsBack 200 [(0, .ref 100), (1, .int x1), (2, .int x2), (3, .int j3)] [.ref 100, .int x2, .ref 129] S R _
          refine u_getr rfl v_tyM rfl ?_
          refine u_st rfl (fun _ => rfl) ?_
          refine u_st rfl (fun _ => rfl) ?_
          refine u_st rfl (fun _ => rfl) ?_
          refine u_st rfl (fun _ => rfl) ?_
          refine u_st rfl (fun _ => rfl) ?_
          show u_P L xs m d m_X12_bringsBack 209 [(0, .ref 100), (1, .int x1), (2, .int x2), (3, .int j3)] [.int (((Int32.ofInt 6) * x1) + x2), .ref 148, .int x2, .ref 129] S R _
          refine u_ialdE (v := S 147 ((((Int32.ofInt 6) * x1) + x2).toInt.toNat)) rfl rfl rfl (fun b101 b102 => ?_)
          have hD := hD b101 b102
          show u_P L xs m d m_X12_bringsBack 210 [(0, .ref 100), (1, .int x1), (2, .int x2), (3, .int j3)] [.int (S 147 ((((Int32.ofInt 6) * x1) + x2).toInt.toNat)), .int x2, .ref 129] S R _
          refine u_st rfl (fun _ => rfl) ?_
          show u_P L xs m d m_X12_bringsBack 214 [(0, .ref 100), (1, .int x1), (2, .int x2), (3, .int j3)] [.int (S 147 ((((Int32.ofInt 6) * x1) + x2).toInt.toNat)), .int x2, .ref 129] S R _
          refine u_iast rfl rfl (fun b111 b112 => ?_)
          have hD := hD b111 b112
          show u_P L xs m d m_X12_bringsBack 215 [(0, .ref 100), (1, .int x1), (2, .int x2), (3, .int j3)] [] (z_s S 128 x2.toInt.toNat (S 147 ((((Int32.ofInt 6) * x1) + x2).toInt.toNat))) R _
          refine u_st rfl (fun _ => rfl) ?_
          refine u_st rfl (fun _ => rfl) ?_
          refine u_lc (b := [(0, .ref 100), (1, .int x1), (2, .int (x2 + (Int32.ofInt 1))), (3, .int j3)]) (show ([2, 0, 1, 3] : List Nat).Nodup by decide) (show ([0, 1, 2, 3] : List Nat).Nodup by decide) (fun i => match i with | 0 => rfl | 1 => rfl | 2 => rfl | 3 => rfl | _ + 4 => rfl) ?_
          exact (ih m hm).2.2.2.2.2 d j3 x1 (x2 + (Int32.ofInt 1)) (z_s S 128 x2.toInt.toNat (S 147 ((((Int32.ofInt 6) * x1) + x2).toInt.toNat))) hD
set_option maxRecDepth 4000 in
theorem w_X12_bringsBack (L : Nat) (xs : Nat → Int32) {R : v_Rf} (a : Int32) (H2 : Int32 → Int32 → v_Sf → Prop) (H107 : Int32 → Int32 → v_Sf → Prop) (H168 : Int32 → Int32 → v_Sf → Prop) (K : v_Sf → Prop) (k2 : ∀ (x1 : Int32) (x2 : Int32) (S : v_Sf), H2 x1 x2 S → D_X12_bringsBack_2 H2 H107 H168 K x1 x2 S) (k107 : ∀ (x1 : Int32) (x2 : Int32) (S : v_Sf), H107 x1 x2 S → D_X12_bringsBack_107 H2 H107 H168 K x1 x2 S) (k168 : ∀ (x1 : Int32) (x2 : Int32) (S : v_Sf), H168 x1 x2 S → D_X12_bringsBack_168 H2 H107 H168 K x1 x2 S) (n d : Nat) (S : v_Sf) (hD : D_X12_bringsBack a H2 H107 H168 K S) : u_P L xs n d m_X12_bringsBack 0 (lv_args 0 [.ref 100, .int a]) [] S R (z_V R K) := by
  unfold D_X12_bringsBack at hD
  show u_P L xs n d m_X12_bringsBack 0 [(0, .ref 100), (1, .int a)] [] S R _
  refine u_st rfl (fun _ => rfl) ?_
  refine u_st rfl (fun _ => rfl) ?_
  refine u_lc (b := [(0, .ref 100), (1, .int a), (2, .int (Int32.ofInt 0))]) (show ([2, 0, 1] : List Nat).Nodup by decide) (show ([0, 1, 2] : List Nat).Nodup by decide) (fun i => match i with | 0 => rfl | 1 => rfl | 2 => rfl | _ + 3 => rfl) ?_
  exact (hd_X12_bringsBack L xs a H2 H107 H168 K k2 k107 k168 n).1 d a (Int32.ofInt 0) S hD
noncomputable def r_X12_bringsBack_168 (x1 : Int32) : Nat → Nat → v_Sf → v_Sf
  | 0, k168, S => z_s (z_s (z_s (z_s S 99 60 (S 148 x1.toInt.toNat)) 99 61 (S 149 x1.toInt.toNat)) 99 62 (S 150 x1.toInt.toNat)) 99 2 (S 151 x1.toInt.toNat)
  | r + 1, k168, S => (if (S 127 (z_i k168).toInt.toNat) ≤ (S 147 ((((Int32.ofInt 6) * x1) + (z_i k168)).toInt.toNat)) then r_X12_bringsBack_168 x1 r (k168 + 1) (z_s S 128 (z_i k168).toInt.toNat (Int32.ofInt 0)) else r_X12_bringsBack_168 x1 r (k168 + 1) (z_s S 128 (z_i k168).toInt.toNat (S 147 ((((Int32.ofInt 6) * x1) + (z_i k168)).toInt.toNat))))
noncomputable def r_X12_bringsBack_107 (x1 : Int32) : Nat → Nat → v_Sf → v_Sf
  | 0, k107, S => r_X12_bringsBack_168 x1 (6 - 0) 0 S
  | r + 1, k107, S => r_X12_bringsBack_107 x1 r (k107 + 1) (z_s (z_s (z_s S 129 (z_i k107).toInt.toNat (u_nar 2 (S 144 ((((Int32.ofInt 5) * x1) + (z_i k107)).toInt.toNat)))) 130 (z_i k107).toInt.toNat (S 145 ((((Int32.ofInt 5) * x1) + (z_i k107)).toInt.toNat))) 131 (z_i k107).toInt.toNat (S 146 ((((Int32.ofInt 5) * x1) + (z_i k107)).toInt.toNat)))
noncomputable def r_X12_bringsBack_2 (x1 : Int32) : Nat → Nat → v_Sf → v_Sf
  | 0, k2, S => r_X12_bringsBack_107 x1 (5 - 0) 0 S
  | r + 1, k2, S => r_X12_bringsBack_2 x1 r (k2 + 1) (z_s (z_s (z_s (z_s (z_s (z_s (z_s S 116 (z_i k2).toInt.toNat (u_nar 2 (S 137 ((((Int32.ofInt 12) * x1) + (z_i k2)).toInt.toNat)))) 117 (z_i k2).toInt.toNat (S 138 ((((Int32.ofInt 12) * x1) + (z_i k2)).toInt.toNat))) 118 (z_i k2).toInt.toNat (S 139 ((((Int32.ofInt 12) * x1) + (z_i k2)).toInt.toNat))) 119 (z_i k2).toInt.toNat (S 140 ((((Int32.ofInt 12) * x1) + (z_i k2)).toInt.toNat))) 120 (z_i k2).toInt.toNat (S 141 ((((Int32.ofInt 12) * x1) + (z_i k2)).toInt.toNat))) 121 (z_i k2).toInt.toNat (S 142 ((((Int32.ofInt 12) * x1) + (z_i k2)).toInt.toNat))) 122 (z_i k2).toInt.toNat (S 143 ((((Int32.ofInt 12) * x1) + (z_i k2)).toInt.toNat)))
noncomputable def F_X12_bringsBack (a : Int32) (S : v_Sf) : v_Sf := r_X12_bringsBack_2 a (12 - 0) 0 S
noncomputable def g_X12_bringsBack (a : Int32) (S : v_Sf) : v_Sf := F_X12_bringsBack a S
theorem c_X12_bringsBack (L : Nat) (xs : Nat → Int32) (n d : Nat) (a : Int32) (S : v_Sf) (R : v_Rf) : u_P L xs n d m_X12_bringsBack 0 (lv_args 0 [.ref 100, .int a]) [] S R (z_V R (fun S1 => g_X12_bringsBack a S = S1)) := by
  refine w_X12_bringsBack L xs a (fun y1 y2 T => ∃ (k2 : Nat), k2 ≤ 12 ∧ z_i k2 = y2 ∧ a = y1 ∧ r_X12_bringsBack_2 a (12 - k2) k2 T = F_X12_bringsBack a S) (fun y1 y2 T => ∃ (k107 : Nat), k107 ≤ 5 ∧ z_i k107 = y2 ∧ a = y1 ∧ r_X12_bringsBack_107 a (5 - k107) k107 T = F_X12_bringsBack a S) (fun y1 y2 T => ∃ (k168 : Nat), k168 ≤ 6 ∧ z_i k168 = y2 ∧ a = y1 ∧ r_X12_bringsBack_168 a (6 - k168) k168 T = F_X12_bringsBack a S) (fun S1 => g_X12_bringsBack a S = S1) ?_ ?_ ?_ n d S ?_
  · rintro _ _ S1 ⟨k2, hkk, rfl, rfl, e⟩
    unfold D_X12_bringsBack_2
    rcases Nat.lt_or_ge k2 (12) with hk | hk
    · rw [show 12 - k2 = (12 - (k2 + 1)) + 1 by omega, r_X12_bringsBack_2] at e
      refine ⟨fun q1 => ?_, fun q1 => ?_⟩
      · exact absurd hk (Nat.not_lt.mpr (z_leB2 (B := 12) q1 (by decide) (by omega)))
      · intro _ _
        intro _ _
        intro _ _
        intro _ _
        intro _ _
        intro _ _
        intro _ _
        intro _ _
        intro _ _
        intro _ _
        intro _ _
        intro _ _
        intro _ _
        intro _ _
        exact ⟨(k2 + 1), by omega, (z_i1 k2).symm, rfl, e⟩
    · rw [show 12 - k2 = 0 by omega, r_X12_bringsBack_2] at e
      refine ⟨fun q2 => ?_, fun q2 => ?_⟩
      · exact ⟨0, by omega, rfl, rfl, e⟩
      · exact absurd hk (Nat.not_le.mpr (z_ltB2 (B := 12) q2 (by decide) (by omega)))
  · rintro _ _ S1 ⟨k107, hkk, rfl, rfl, e⟩
    unfold D_X12_bringsBack_107
    rcases Nat.lt_or_ge k107 (5) with hk | hk
    · rw [show 5 - k107 = (5 - (k107 + 1)) + 1 by omega, r_X12_bringsBack_107] at e
      refine ⟨fun q3 => ?_, fun q3 => ?_⟩
      · exact absurd hk (Nat.not_lt.mpr (z_leB2 (B := 5) q3 (by decide) (by omega)))
      · intro _ _
        intro _ _
        intro _ _
        intro _ _
        intro _ _
        intro _ _
        exact ⟨(k107 + 1), by omega, (z_i1 k107).symm, rfl, e⟩
    · rw [show 5 - k107 = 0 by omega, r_X12_bringsBack_107] at e
      refine ⟨fun q4 => ?_, fun q4 => ?_⟩
      · exact ⟨0, by omega, rfl, rfl, e⟩
      · exact absurd hk (Nat.not_le.mpr (z_ltB2 (B := 5) q4 (by decide) (by omega)))
  · rintro _ _ S1 ⟨k168, hkk, rfl, rfl, e⟩
    unfold D_X12_bringsBack_168
    rcases Nat.lt_or_ge k168 (6) with hk | hk
    · rw [show 6 - k168 = (6 - (k168 + 1)) + 1 by omega, r_X12_bringsBack_168] at e
      refine ⟨fun q5 => ?_, fun q5 => ?_⟩
      · exact absurd hk (Nat.not_lt.mpr (z_leB2 (B := 6) q5 (by decide) (by omega)))
      · intro _ _
        intro _ _
        refine ⟨fun q6 => ?_, fun q6 => ?_⟩
        · intro _ _
          rw [if_pos q6] at e
          exact ⟨(k168 + 1), by omega, (z_i1 k168).symm, rfl, e⟩
        · intro _ _
          intro _ _
          rw [if_neg q6] at e
          exact ⟨(k168 + 1), by omega, (z_i1 k168).symm, rfl, e⟩
    · rw [show 6 - k168 = 0 by omega, r_X12_bringsBack_168] at e
      refine ⟨fun q7 => ?_, fun q7 => ?_⟩
      · intro _ _
        intro _ _
        intro _ _
        intro _ _
        exact e.symm
      · exact absurd hk (Nat.not_le.mpr (z_ltB2 (B := 6) q7 (by decide) (by omega)))
  · unfold D_X12_bringsBack
    have e : r_X12_bringsBack_2 a (12 - 0) 0 S = F_X12_bringsBack a S := by rw [F_X12_bringsBack]
    exact ⟨0, by omega, rfl, rfl, e⟩
noncomputable abbrev m_X12_moves : g_M := (g_cn 12, yX12_moves, cX12_moves, 3, (some .boolean), g_look2 ttX12_moves)
set_option maxRecDepth 20000 in
theorem mt_X12_moves : g_mt 217 = some m_X12_moves := rfl
noncomputable def f_X12_moves (g : Int32) (w : Int32) (S : v_Sf) : Int32 := (if (f_X12_isTold g S) = 0 then Int32.ofInt 0 else (if (f_X12_isWard w) = 0 then Int32.ofInt 0 else (if (S 120 g.toInt.toNat) = w then Int32.ofInt 0 else (if (f_X12_manyIn w S) < (S 123 w.toInt.toNat) then Int32.ofInt 1 else Int32.ofInt 0))))
noncomputable def g_X12_moves (g : Int32) (w : Int32) (S : v_Sf) : v_Sf := (if (f_X12_isTold g S) = 0 then S else (if (f_X12_isWard w) = 0 then S else (if (S 120 g.toInt.toNat) = w then S else (if (f_X12_manyIn w S) < (S 123 w.toInt.toNat) then z_s S 120 g.toInt.toNat w else S))))
set_option maxRecDepth 4000 in
theorem c_X12_moves (L : Nat) (xs : Nat → Int32) (n d : Nat) (g : Int32) (w : Int32) (S : v_Sf) (R : v_Rf) : u_P L xs n d m_X12_moves 0 (lv_args 0 [.ref 100, .int g, .int w]) [] S R (z_Q R (fun v S1 => f_X12_moves g w S = v ∧ g_X12_moves g w S = S1)) := by
  show u_P L xs n d m_X12_moves 0 [(0, .ref 100), (1, .int g), (2, .int w)] [] S R _
  refine u_st rfl (fun _ => rfl) ?_
  refine u_st rfl (fun _ => rfl) ?_
  show u_P L xs n d m_X12_moves 2 [(0, .ref 100), (1, .int g), (2, .int w)] [.int g, .ref 100] S R _
  refine u_cv (rest := []) rfl (by decide) mt_X12_isTold v_tyM rfl rfl rfl (Nat.le_of_ble_eq_true rfl) (Nat.le_of_ble_eq_true rfl) (Nat.le_of_ble_eq_true rfl) (fun d' => c_X12_isTold L xs n d' g S R) ?_
  rintro _ _ _ ⟨_, rfl, rfl, rfl, rfl⟩
  show u_P L xs n d m_X12_moves 5 [(0, .ref 100), (1, .int g), (2, .int w)] [.int (f_X12_isTold g S)] S R _
  refine u_if_eq rfl (fun h1 => ?_) (fun h1 => ?_)
  · show u_P L xs n d m_X12_moves 39 [(0, .ref 100), (1, .int g), (2, .int w)] [] S R _
    refine u_st rfl (fun _ => rfl) ?_
    show u_P L xs n d m_X12_moves 40 [(0, .ref 100), (1, .int g), (2, .int w)] [.int (Int32.ofInt 0)] S R _
    exact u_retb rfl rfl ⟨_, rfl, rfl, by rw [f_X12_moves, if_pos h1], by rw [g_X12_moves, if_pos h1]⟩
  · show u_P L xs n d m_X12_moves 8 [(0, .ref 100), (1, .int g), (2, .int w)] [] S R _
    refine u_st rfl (fun _ => rfl) ?_
    show u_P L xs n d m_X12_moves 9 [(0, .ref 100), (1, .int g), (2, .int w)] [.int w] S R _
    refine u_cs (ac := [.int w]) (rest := []) rfl (by decide) mt_X12_isWard (fun _ => rfl) (Nat.le_of_ble_eq_true rfl) (Nat.le_of_ble_eq_true rfl) (fun d' => c_X12_isWard L xs n d' w S R) ?_
    rintro _ _ _ ⟨_, rfl, rfl, rfl, rfl⟩
    show u_P L xs n d m_X12_moves 12 [(0, .ref 100), (1, .int g), (2, .int w)] [.int (f_X12_isWard w)] S R _
    refine u_if_eq rfl (fun h2 => ?_) (fun h2 => ?_)
    · show u_P L xs n d m_X12_moves 39 [(0, .ref 100), (1, .int g), (2, .int w)] [] S R _
      refine u_st rfl (fun _ => rfl) ?_
      show u_P L xs n d m_X12_moves 40 [(0, .ref 100), (1, .int g), (2, .int w)] [.int (Int32.ofInt 0)] S R _
      exact u_retb rfl rfl ⟨_, rfl, rfl, by rw [f_X12_moves, if_neg h1, if_pos h2], by rw [g_X12_moves, if_neg h1, if_pos h2]⟩
    · show u_P L xs n d m_X12_moves 15 [(0, .ref 100), (1, .int g), (2, .int w)] [] S R _
      refine u_st rfl (fun _ => rfl) ?_
      show u_P L xs n d m_X12_moves 16 [(0, .ref 100), (1, .int g), (2, .int w)] [.ref 100] S R _
      refine u_getr rfl v_tyM rfl ?_
      refine u_st rfl (fun _ => rfl) ?_
      show u_P L xs n d m_X12_moves 20 [(0, .ref 100), (1, .int g), (2, .int w)] [.int g, .ref 121] S R _
      refine u_ialdE (v := S 120 g.toInt.toNat) rfl rfl rfl (fun b31 b32 => ?_)
      refine u_st rfl (fun _ => rfl) ?_
      show u_P L xs n d m_X12_moves 22 [(0, .ref 100), (1, .int g), (2, .int w)] [.int w, .int (S 120 g.toInt.toNat)] S R _
      refine u_ic_eq rfl (fun h4 => ?_) (fun h4 => ?_)
      · show u_P L xs n d m_X12_moves 39 [(0, .ref 100), (1, .int g), (2, .int w)] [] S R _
        refine u_st rfl (fun _ => rfl) ?_
        show u_P L xs n d m_X12_moves 40 [(0, .ref 100), (1, .int g), (2, .int w)] [.int (Int32.ofInt 0)] S R _
        exact u_retb rfl rfl ⟨_, rfl, rfl, by rw [f_X12_moves, if_neg h1, if_neg h2, if_pos h4], by rw [g_X12_moves, if_neg h1, if_neg h2, if_pos h4]⟩
      · show u_P L xs n d m_X12_moves 25 [(0, .ref 100), (1, .int g), (2, .int w)] [] S R _
        refine u_st rfl (fun _ => rfl) ?_
        refine u_st rfl (fun _ => rfl) ?_
        show u_P L xs n d m_X12_moves 27 [(0, .ref 100), (1, .int g), (2, .int w)] [.int w, .ref 100] S R _
        refine u_cv (rest := []) rfl (by decide) mt_X12_manyIn v_tyM rfl rfl rfl (Nat.le_of_ble_eq_true rfl) (Nat.le_of_ble_eq_true rfl) (Nat.le_of_ble_eq_true rfl) (fun d' => c_X12_manyIn L xs n d' w S R) ?_
        rintro _ _ _ ⟨_, rfl, rfl, rfl, rfl⟩
        refine u_st rfl (fun _ => rfl) ?_
        show u_P L xs n d m_X12_moves 31 [(0, .ref 100), (1, .int g), (2, .int w)] [.ref 100, .int (f_X12_manyIn w S)] S R _
        refine u_getr rfl v_tyM rfl ?_
        refine u_st rfl (fun _ => rfl) ?_
        show u_P L xs n d m_X12_moves 35 [(0, .ref 100), (1, .int g), (2, .int w)] [.int w, .ref 124, .int (f_X12_manyIn w S)] S R _
        refine u_ialdE (v := S 123 w.toInt.toNat) rfl rfl rfl (fun b51 b52 => ?_)
        show u_P L xs n d m_X12_moves 36 [(0, .ref 100), (1, .int g), (2, .int w)] [.int (S 123 w.toInt.toNat), .int (f_X12_manyIn w S)] S R _
        refine u_ic_lt rfl (fun h6 => ?_) (fun h6 => ?_)
        · show u_P L xs n d m_X12_moves 41 [(0, .ref 100), (1, .int g), (2, .int w)] [] S R _
          refine u_st rfl (fun _ => rfl) ?_
          show u_P L xs n d m_X12_moves 42 [(0, .ref 100), (1, .int g), (2, .int w)] [.ref 100] S R _
          refine u_getr rfl v_tyM rfl ?_
          refine u_st rfl (fun _ => rfl) ?_
          refine u_st rfl (fun _ => rfl) ?_
          show u_P L xs n d m_X12_moves 47 [(0, .ref 100), (1, .int g), (2, .int w)] [.int w, .int g, .ref 121] S R _
          refine u_iast rfl rfl (fun b71 b72 => ?_)
          refine u_st rfl (fun _ => rfl) ?_
          show u_P L xs n d m_X12_moves 49 [(0, .ref 100), (1, .int g), (2, .int w)] [.int (Int32.ofInt 1)] (z_s S 120 g.toInt.toNat w) R _
          exact u_retb rfl rfl ⟨_, rfl, rfl, by rw [f_X12_moves, if_neg h1, if_neg h2, if_neg h4, if_pos h6], by rw [g_X12_moves, if_neg h1, if_neg h2, if_neg h4, if_pos h6]⟩
        · show u_P L xs n d m_X12_moves 39 [(0, .ref 100), (1, .int g), (2, .int w)] [] S R _
          refine u_st rfl (fun _ => rfl) ?_
          show u_P L xs n d m_X12_moves 40 [(0, .ref 100), (1, .int g), (2, .int w)] [.int (Int32.ofInt 0)] S R _
          exact u_retb rfl rfl ⟨_, rfl, rfl, by rw [f_X12_moves, if_neg h1, if_neg h2, if_neg h4, if_neg h6], by rw [g_X12_moves, if_neg h1, if_neg h2, if_neg h4, if_neg h6]⟩
noncomputable abbrev m_X12_keep : g_M := (g_cn 12, yX12_keep, cX12_keep, 1, (some .int), g_look2 ttX12_keep)
set_option maxRecDepth 20000 in
theorem mt_X12_keep : g_mt 294 = some m_X12_keep := rfl
noncomputable def f_X12_keep  (S : v_Sf) : Int32 := f_X12_sizeOf (f_X12_toldGusts (g_X12_laysAside (Int32.ofInt 1) (z_s S 99 92 (Int32.ofInt 1))))
noncomputable def g_X12_keep  (S : v_Sf) : v_Sf := g_X12_laysAside (Int32.ofInt 1) (z_s S 99 92 (Int32.ofInt 1))
set_option maxRecDepth 4000 in
theorem c_X12_keep (L : Nat) (xs : Nat → Int32) (n d : Nat)  (S : v_Sf) (R : v_Rf) : u_P L xs n d m_X12_keep 0 (lv_args 0 [.ref 100]) [] S R (z_Q R (fun v S1 => f_X12_keep  S = v ∧ g_X12_keep  S = S1)) := by
  show u_P L xs n d m_X12_keep 0 [(0, .ref 100)] [] S R _
  refine u_st rfl (fun _ => rfl) ?_
  refine u_st rfl (fun _ => rfl) ?_
  show u_P L xs n d m_X12_keep 2 [(0, .ref 100)] [.int (Int32.ofInt 1), .ref 100] S R _
  refine u_put rfl v_tyM rfl ?_
  refine u_st rfl (fun _ => rfl) ?_
  refine u_st rfl (fun _ => rfl) ?_
  show u_P L xs n d m_X12_keep 7 [(0, .ref 100)] [.int (Int32.ofInt 1), .ref 100] (z_s S 99 92 (Int32.ofInt 1)) R _
  refine u_cv (rest := []) rfl (by decide) mt_X12_laysAside v_tyM rfl rfl rfl (Nat.le_of_ble_eq_true rfl) (Nat.le_of_ble_eq_true rfl) (Nat.le_of_ble_eq_true rfl) (fun d' => c_X12_laysAside L xs n d' (Int32.ofInt 1) (z_s S 99 92 (Int32.ofInt 1)) R) ?_
  rintro _ _ _ ⟨rfl, rfl, rfl⟩
  refine u_st rfl (fun _ => rfl) ?_
  show u_P L xs n d m_X12_keep 11 [(0, .ref 100)] [.ref 100] (g_X12_laysAside (Int32.ofInt 1) (z_s S 99 92 (Int32.ofInt 1))) R _
  refine u_cv (rest := []) rfl (by decide) mt_X12_toldGusts v_tyM rfl rfl rfl (Nat.le_of_ble_eq_true rfl) (Nat.le_of_ble_eq_true rfl) (Nat.le_of_ble_eq_true rfl) (fun d' => c_X12_toldGusts L xs n d' (g_X12_laysAside (Int32.ofInt 1) (z_s S 99 92 (Int32.ofInt 1))) R) ?_
  rintro _ _ _ ⟨_, rfl, rfl, rfl, rfl⟩
  show u_P L xs n d m_X12_keep 14 [(0, .ref 100)] [.int (f_X12_toldGusts (g_X12_laysAside (Int32.ofInt 1) (z_s S 99 92 (Int32.ofInt 1))))] (g_X12_laysAside (Int32.ofInt 1) (z_s S 99 92 (Int32.ofInt 1))) R _
  refine u_cs (ac := [.int (f_X12_toldGusts (g_X12_laysAside (Int32.ofInt 1) (z_s S 99 92 (Int32.ofInt 1))))]) (rest := []) rfl (by decide) mt_X12_sizeOf (fun _ => rfl) (Nat.le_of_ble_eq_true rfl) (Nat.le_of_ble_eq_true rfl) (fun d' => c_X12_sizeOf L xs n d' (f_X12_toldGusts (g_X12_laysAside (Int32.ofInt 1) (z_s S 99 92 (Int32.ofInt 1)))) (g_X12_laysAside (Int32.ofInt 1) (z_s S 99 92 (Int32.ofInt 1))) R) ?_
  rintro _ _ _ ⟨_, rfl, rfl, rfl, rfl⟩
  show u_P L xs n d m_X12_keep 17 [(0, .ref 100)] [.int (f_X12_sizeOf (f_X12_toldGusts (g_X12_laysAside (Int32.ofInt 1) (z_s S 99 92 (Int32.ofInt 1)))))] (g_X12_laysAside (Int32.ofInt 1) (z_s S 99 92 (Int32.ofInt 1))) R _
  exact u_ret rfl rfl ⟨_, rfl, rfl, rfl, rfl⟩
noncomputable abbrev m_X12_undo : g_M := (g_cn 12, yX12_undo, cX12_undo, 1, (some .boolean), g_look2 ttX12_undo)
set_option maxRecDepth 20000 in
theorem mt_X12_undo : g_mt 295 = some m_X12_undo := rfl
noncomputable def f_X12_undo  (S : v_Sf) : Int32 := (if ¬ (S 99 92) = 0 then Int32.ofInt 1 else Int32.ofInt 0)
noncomputable def g_X12_undo  (S : v_Sf) : v_Sf := (if ¬ (S 99 92) = 0 then g_X12_bringsBack (Int32.ofInt 1) S else S)
set_option maxRecDepth 4000 in
theorem c_X12_undo (L : Nat) (xs : Nat → Int32) (n d : Nat)  (S : v_Sf) (R : v_Rf) : u_P L xs n d m_X12_undo 0 (lv_args 0 [.ref 100]) [] S R (z_Q R (fun v S1 => f_X12_undo  S = v ∧ g_X12_undo  S = S1)) := by
  show u_P L xs n d m_X12_undo 0 [(0, .ref 100)] [] S R _
  refine u_st rfl (fun _ => rfl) ?_
  show u_P L xs n d m_X12_undo 1 [(0, .ref 100)] [.ref 100] S R _
  refine u_getE (v := S 99 92) rfl v_tyM rfl rfl ?_
  show u_P L xs n d m_X12_undo 4 [(0, .ref 100)] [.int (S 99 92)] S R _
  refine u_if_ne rfl (fun h1 => ?_) (fun h1 => ?_)
  · show u_P L xs n d m_X12_undo 9 [(0, .ref 100)] [] S R _
    refine u_st rfl (fun _ => rfl) ?_
    refine u_st rfl (fun _ => rfl) ?_
    show u_P L xs n d m_X12_undo 11 [(0, .ref 100)] [.int (Int32.ofInt 1), .ref 100] S R _
    refine u_cv (rest := []) rfl (by decide) mt_X12_bringsBack v_tyM rfl rfl rfl (Nat.le_of_ble_eq_true rfl) (Nat.le_of_ble_eq_true rfl) (Nat.le_of_ble_eq_true rfl) (fun d' => c_X12_bringsBack L xs n d' (Int32.ofInt 1) S R) ?_
    rintro _ _ _ ⟨rfl, rfl, rfl⟩
    refine u_st rfl (fun _ => rfl) ?_
    show u_P L xs n d m_X12_undo 15 [(0, .ref 100)] [.int (Int32.ofInt 1)] (g_X12_bringsBack (Int32.ofInt 1) S) R _
    exact u_retb rfl rfl ⟨_, rfl, rfl, by rw [f_X12_undo, if_pos h1], by rw [g_X12_undo, if_pos h1]⟩
  · show u_P L xs n d m_X12_undo 7 [(0, .ref 100)] [] S R _
    refine u_st rfl (fun _ => rfl) ?_
    show u_P L xs n d m_X12_undo 8 [(0, .ref 100)] [.int (Int32.ofInt 0)] S R _
    exact u_retb rfl rfl ⟨_, rfl, rfl, by rw [f_X12_undo, if_neg h1], by rw [g_X12_undo, if_neg h1]⟩
noncomputable abbrev m_X12_tried : g_M := (g_cn 12, yX12_tried, cX12_tried, 4, (some .int), g_look2 ttX12_tried)
set_option maxRecDepth 20000 in
theorem mt_X12_tried : g_mt 241 = some m_X12_tried := rfl
noncomputable def f_X12_tried (a : Int32) (b : Int32) (S : v_Sf) : Int32 := (if (z_in a 1 60) = 0 then Int32.ofInt (-1) else (if ¬ (z_in b 0 6) = 0 then (if b = Int32.ofInt 0 then (g_X12_go a (g_X12_laysAside (Int32.ofInt 0) S)) 99 70 else (if b = Int32.ofInt 1 then (g_X12_go a (g_X12_laysAside (Int32.ofInt 0) S)) 99 71 else (if b = Int32.ofInt 2 then (g_X12_go a (g_X12_laysAside (Int32.ofInt 0) S)) 99 72 else (if b = Int32.ofInt 3 then (g_X12_go a (g_X12_laysAside (Int32.ofInt 0) S)) 99 73 else (if b = Int32.ofInt 4 then (g_X12_go a (g_X12_laysAside (Int32.ofInt 0) S)) 99 74 else (if b = Int32.ofInt 5 then (g_X12_go a (g_X12_laysAside (Int32.ofInt 0) S)) 99 75 else (if b = Int32.ofInt 6 then (g_X12_go a (g_X12_laysAside (Int32.ofInt 0) S)) 99 76 else (g_X12_go a (g_X12_laysAside (Int32.ofInt 0) S)) 117 ((b - (Int32.ofInt 10)).toInt.toNat)))))))) else (if ¬ (f_X12_isTold (b - (Int32.ofInt 10)) S) = 0 then (if b = Int32.ofInt 0 then (g_X12_go a (g_X12_laysAside (Int32.ofInt 0) S)) 99 70 else (if b = Int32.ofInt 1 then (g_X12_go a (g_X12_laysAside (Int32.ofInt 0) S)) 99 71 else (if b = Int32.ofInt 2 then (g_X12_go a (g_X12_laysAside (Int32.ofInt 0) S)) 99 72 else (if b = Int32.ofInt 3 then (g_X12_go a (g_X12_laysAside (Int32.ofInt 0) S)) 99 73 else (if b = Int32.ofInt 4 then (g_X12_go a (g_X12_laysAside (Int32.ofInt 0) S)) 99 74 else (if b = Int32.ofInt 5 then (g_X12_go a (g_X12_laysAside (Int32.ofInt 0) S)) 99 75 else (if b = Int32.ofInt 6 then (g_X12_go a (g_X12_laysAside (Int32.ofInt 0) S)) 99 76 else (g_X12_go a (g_X12_laysAside (Int32.ofInt 0) S)) 117 ((b - (Int32.ofInt 10)).toInt.toNat)))))))) else Int32.ofInt (-1))))
noncomputable def g_X12_tried (a : Int32) (b : Int32) (S : v_Sf) : v_Sf := (if (z_in a 1 60) = 0 then S else (if ¬ (z_in b 0 6) = 0 then g_X12_bringsBack (Int32.ofInt 0) (g_X12_go a (g_X12_laysAside (Int32.ofInt 0) S)) else (if ¬ (f_X12_isTold (b - (Int32.ofInt 10)) S) = 0 then g_X12_bringsBack (Int32.ofInt 0) (g_X12_go a (g_X12_laysAside (Int32.ofInt 0) S)) else S)))
set_option maxRecDepth 4000 in
theorem c_X12_tried (L : Nat) (xs : Nat → Int32) (n d : Nat) (a : Int32) (b : Int32) (S : v_Sf) (R : v_Rf) : u_P L xs n d m_X12_tried 0 (lv_args 0 [.ref 100, .int a, .int b]) [] S R (z_Q R (fun v S1 => f_X12_tried a b S = v ∧ g_X12_tried a b S = S1)) := by
  show u_P L xs n d m_X12_tried 0 [(0, .ref 100), (1, .int a), (2, .int b)] [] S R _
  refine u_st rfl (fun _ => rfl) ?_
  refine u_st rfl (fun _ => rfl) ?_
  refine u_st rfl (fun _ => rfl) ?_
  refine u_st rfl (fun _ => rfl) ?_
  show u_P L xs n d m_X12_tried 6 [(0, .ref 100), (1, .int a), (2, .int b)] [.long (Int64.ofInt 60), .long (Int64.ofNat 1), .long a.toInt64] S R _
  refine u_cs (ac := [.long a.toInt64, .long (Int64.ofNat 1), .long (Int64.ofInt 60)]) (rest := []) rfl (by decide) mt_X12_lies (fun _ => rfl) (Nat.le_of_ble_eq_true rfl) (Nat.le_of_ble_eq_true rfl) (fun d' => z_liesC L xs n d' a (Int64.ofNat 1) (Int64.ofInt 60) (lo := 1) (hi := 60) rfl rfl S R) ?_
  rintro _ _ _ ⟨_, rfl, rfl, rfl, rfl⟩
  show u_P L xs n d m_X12_tried 9 [(0, .ref 100), (1, .int a), (2, .int b)] [.int (z_in a 1 60)] S R _
  refine u_if_eq rfl (fun h1 => ?_) (fun h1 => ?_)
  · show u_P L xs n d m_X12_tried 35 [(0, .ref 100), (1, .int a), (2, .int b)] [] S R _
    refine u_st rfl (fun _ => rfl) ?_
    show u_P L xs n d m_X12_tried 36 [(0, .ref 100), (1, .int a), (2, .int b)] [.int (Int32.ofInt (-1))] S R _
    exact u_ret rfl rfl ⟨_, rfl, rfl, by rw [f_X12_tried, if_pos h1], by rw [g_X12_tried, if_pos h1]⟩
  · show u_P L xs n d m_X12_tried 12 [(0, .ref 100), (1, .int a), (2, .int b)] [] S R _
    refine u_st rfl (fun _ => rfl) ?_
    refine u_st rfl (fun _ => rfl) ?_
    refine u_st rfl (fun _ => rfl) ?_
    refine u_st rfl (fun _ => rfl) ?_
    show u_P L xs n d m_X12_tried 18 [(0, .ref 100), (1, .int a), (2, .int b)] [.long (Int64.ofInt 6), .long (Int64.ofNat 0), .long b.toInt64] S R _
    refine u_cs (ac := [.long b.toInt64, .long (Int64.ofNat 0), .long (Int64.ofInt 6)]) (rest := []) rfl (by decide) mt_X12_lies (fun _ => rfl) (Nat.le_of_ble_eq_true rfl) (Nat.le_of_ble_eq_true rfl) (fun d' => z_liesC L xs n d' b (Int64.ofNat 0) (Int64.ofInt 6) (lo := 0) (hi := 6) rfl rfl S R) ?_
    rintro _ _ _ ⟨_, rfl, rfl, rfl, rfl⟩
    show u_P L xs n d m_X12_tried 21 [(0, .ref 100), (1, .int a), (2, .int b)] [.int (z_in b 0 6)] S R _
    refine u_if_ne rfl (fun h2 => ?_) (fun h2 => ?_)
    · show u_P L xs n d m_X12_tried 37 [(0, .ref 100), (1, .int a), (2, .int b)] [] S R _
      refine u_st rfl (fun _ => rfl) ?_
      refine u_st rfl (fun _ => rfl) ?_
      show u_P L xs n d m_X12_tried 39 [(0, .ref 100), (1, .int a), (2, .int b)] [.int (Int32.ofInt 0), .ref 100] S R _
      refine u_cv (rest := []) rfl (by decide) mt_X12_laysAside v_tyM rfl rfl rfl (Nat.le_of_ble_eq_true rfl) (Nat.le_of_ble_eq_true rfl) (Nat.le_of_ble_eq_true rfl) (fun d' => c_X12_laysAside L xs n d' (Int32.ofInt 0) S R) ?_
      rintro _ _ _ ⟨rfl, rfl, rfl⟩
      refine u_st rfl (fun _ => rfl) ?_
      refine u_st rfl (fun _ => rfl) ?_
      show u_P L xs n d m_X12_tried 44 [(0, .ref 100), (1, .int a), (2, .int b)] [.int a, .ref 100] (g_X12_laysAside (Int32.ofInt 0) S) R _
      refine u_cv (rest := []) rfl (by decide) mt_X12_go v_tyM rfl rfl rfl (Nat.le_of_ble_eq_true rfl) (Nat.le_of_ble_eq_true rfl) (Nat.le_of_ble_eq_true rfl) (fun d' => c_X12_go L xs n d' a (g_X12_laysAside (Int32.ofInt 0) S) R) ?_
      rintro _ _ _ ⟨rfl, rfl, rfl⟩
      refine u_st rfl (fun _ => rfl) ?_
      show u_P L xs n d m_X12_tried 48 [(0, .ref 100), (1, .int a), (2, .int b)] [.int b] (g_X12_go a (g_X12_laysAside (Int32.ofInt 0) S)) R _
      by_cases h3_0 : b = Int32.ofInt 0
      · refine u_jm (t := 92) (sc1 := []) rfl rfl rfl (by rw [h3_0]; rfl) ?_
        show u_P L xs n d m_X12_tried 92 [(0, .ref 100), (1, .int a), (2, .int b)] [] (g_X12_go a (g_X12_laysAside (Int32.ofInt 0) S)) R _
        refine u_st rfl (fun _ => rfl) ?_
        show u_P L xs n d m_X12_tried 93 [(0, .ref 100), (1, .int a), (2, .int b)] [.ref 100] (g_X12_go a (g_X12_laysAside (Int32.ofInt 0) S)) R _
        refine u_getE (v := (g_X12_go a (g_X12_laysAside (Int32.ofInt 0) S)) 99 70) rfl v_tyM rfl rfl ?_
        refine u_st rfl (fun _ => rfl) ?_
        refine u_st rfl (fun _ => rfl) ?_
        refine u_st rfl (fun _ => rfl) ?_
        refine u_st rfl (fun _ => rfl) ?_
        show u_P L xs n d m_X12_tried 160 [(3, .int ((g_X12_go a (g_X12_laysAside (Int32.ofInt 0) S)) 99 70)), (0, .ref 100), (1, .int a), (2, .int b)] [.int (Int32.ofInt 0), .ref 100] (g_X12_go a (g_X12_laysAside (Int32.ofInt 0) S)) R _
        refine u_cv (rest := []) rfl (by decide) mt_X12_bringsBack v_tyM rfl rfl rfl (Nat.le_of_ble_eq_true rfl) (Nat.le_of_ble_eq_true rfl) (Nat.le_of_ble_eq_true rfl) (fun d' => c_X12_bringsBack L xs n d' (Int32.ofInt 0) (g_X12_go a (g_X12_laysAside (Int32.ofInt 0) S)) R) ?_
        rintro _ _ _ ⟨rfl, rfl, rfl⟩
        refine u_st rfl (fun _ => rfl) ?_
        show u_P L xs n d m_X12_tried 164 [(3, .int ((g_X12_go a (g_X12_laysAside (Int32.ofInt 0) S)) 99 70)), (0, .ref 100), (1, .int a), (2, .int b)] [.int ((g_X12_go a (g_X12_laysAside (Int32.ofInt 0) S)) 99 70)] (g_X12_bringsBack (Int32.ofInt 0) (g_X12_go a (g_X12_laysAside (Int32.ofInt 0) S))) R _
        exact u_ret rfl rfl ⟨_, rfl, rfl, by rw [f_X12_tried, if_neg h1, if_pos h2, if_pos h3_0], by rw [g_X12_tried, if_neg h1, if_pos h2]⟩
      · by_cases h3_1 : b = Int32.ofInt 1
        · refine u_jm (t := 100) (sc1 := []) rfl rfl rfl (by rw [h3_1]; rfl) ?_
          show u_P L xs n d m_X12_tried 100 [(0, .ref 100), (1, .int a), (2, .int b)] [] (g_X12_go a (g_X12_laysAside (Int32.ofInt 0) S)) R _
          refine u_st rfl (fun _ => rfl) ?_
          show u_P L xs n d m_X12_tried 101 [(0, .ref 100), (1, .int a), (2, .int b)] [.ref 100] (g_X12_go a (g_X12_laysAside (Int32.ofInt 0) S)) R _
          refine u_getE (v := (g_X12_go a (g_X12_laysAside (Int32.ofInt 0) S)) 99 71) rfl v_tyM rfl rfl ?_
          refine u_st rfl (fun _ => rfl) ?_
          refine u_st rfl (fun _ => rfl) ?_
          refine u_st rfl (fun _ => rfl) ?_
          refine u_st rfl (fun _ => rfl) ?_
          show u_P L xs n d m_X12_tried 160 [(3, .int ((g_X12_go a (g_X12_laysAside (Int32.ofInt 0) S)) 99 71)), (0, .ref 100), (1, .int a), (2, .int b)] [.int (Int32.ofInt 0), .ref 100] (g_X12_go a (g_X12_laysAside (Int32.ofInt 0) S)) R _
          refine u_cv (rest := []) rfl (by decide) mt_X12_bringsBack v_tyM rfl rfl rfl (Nat.le_of_ble_eq_true rfl) (Nat.le_of_ble_eq_true rfl) (Nat.le_of_ble_eq_true rfl) (fun d' => c_X12_bringsBack L xs n d' (Int32.ofInt 0) (g_X12_go a (g_X12_laysAside (Int32.ofInt 0) S)) R) ?_
          rintro _ _ _ ⟨rfl, rfl, rfl⟩
          refine u_st rfl (fun _ => rfl) ?_
          show u_P L xs n d m_X12_tried 164 [(3, .int ((g_X12_go a (g_X12_laysAside (Int32.ofInt 0) S)) 99 71)), (0, .ref 100), (1, .int a), (2, .int b)] [.int ((g_X12_go a (g_X12_laysAside (Int32.ofInt 0) S)) 99 71)] (g_X12_bringsBack (Int32.ofInt 0) (g_X12_go a (g_X12_laysAside (Int32.ofInt 0) S))) R _
          exact u_ret rfl rfl ⟨_, rfl, rfl, by rw [f_X12_tried, if_neg h1, if_pos h2, if_neg h3_0, if_pos h3_1], by rw [g_X12_tried, if_neg h1, if_pos h2]⟩
        · by_cases h3_2 : b = Int32.ofInt 2
          · refine u_jm (t := 108) (sc1 := []) rfl rfl rfl (by rw [h3_2]; rfl) ?_
            show u_P L xs n d m_X12_tried 108 [(0, .ref 100), (1, .int a), (2, .int b)] [] (g_X12_go a (g_X12_laysAside (Int32.ofInt 0) S)) R _
            refine u_st rfl (fun _ => rfl) ?_
            show u_P L xs n d m_X12_tried 109 [(0, .ref 100), (1, .int a), (2, .int b)] [.ref 100] (g_X12_go a (g_X12_laysAside (Int32.ofInt 0) S)) R _
            refine u_getE (v := (g_X12_go a (g_X12_laysAside (Int32.ofInt 0) S)) 99 72) rfl v_tyM rfl rfl ?_
            refine u_st rfl (fun _ => rfl) ?_
            refine u_st rfl (fun _ => rfl) ?_
            refine u_st rfl (fun _ => rfl) ?_
            refine u_st rfl (fun _ => rfl) ?_
            show u_P L xs n d m_X12_tried 160 [(3, .int ((g_X12_go a (g_X12_laysAside (Int32.ofInt 0) S)) 99 72)), (0, .ref 100), (1, .int a), (2, .int b)] [.int (Int32.ofInt 0), .ref 100] (g_X12_go a (g_X12_laysAside (Int32.ofInt 0) S)) R _
            refine u_cv (rest := []) rfl (by decide) mt_X12_bringsBack v_tyM rfl rfl rfl (Nat.le_of_ble_eq_true rfl) (Nat.le_of_ble_eq_true rfl) (Nat.le_of_ble_eq_true rfl) (fun d' => c_X12_bringsBack L xs n d' (Int32.ofInt 0) (g_X12_go a (g_X12_laysAside (Int32.ofInt 0) S)) R) ?_
            rintro _ _ _ ⟨rfl, rfl, rfl⟩
            refine u_st rfl (fun _ => rfl) ?_
            show u_P L xs n d m_X12_tried 164 [(3, .int ((g_X12_go a (g_X12_laysAside (Int32.ofInt 0) S)) 99 72)), (0, .ref 100), (1, .int a), (2, .int b)] [.int ((g_X12_go a (g_X12_laysAside (Int32.ofInt 0) S)) 99 72)] (g_X12_bringsBack (Int32.ofInt 0) (g_X12_go a (g_X12_laysAside (Int32.ofInt 0) S))) R _
            exact u_ret rfl rfl ⟨_, rfl, rfl, by rw [f_X12_tried, if_neg h1, if_pos h2, if_neg h3_0, if_neg h3_1, if_pos h3_2], by rw [g_X12_tried, if_neg h1, if_pos h2]⟩
          · by_cases h3_3 : b = Int32.ofInt 3
            · refine u_jm (t := 116) (sc1 := []) rfl rfl rfl (by rw [h3_3]; rfl) ?_
              show u_P L xs n d m_X12_tried 116 [(0, .ref 100), (1, .int a), (2, .int b)] [] (g_X12_go a (g_X12_laysAside (Int32.ofInt 0) S)) R _
              refine u_st rfl (fun _ => rfl) ?_
              show u_P L xs n d m_X12_tried 117 [(0, .ref 100), (1, .int a), (2, .int b)] [.ref 100] (g_X12_go a (g_X12_laysAside (Int32.ofInt 0) S)) R _
              refine u_getE (v := (g_X12_go a (g_X12_laysAside (Int32.ofInt 0) S)) 99 73) rfl v_tyM rfl rfl ?_
              refine u_st rfl (fun _ => rfl) ?_
              refine u_st rfl (fun _ => rfl) ?_
              refine u_st rfl (fun _ => rfl) ?_
              refine u_st rfl (fun _ => rfl) ?_
              show u_P L xs n d m_X12_tried 160 [(3, .int ((g_X12_go a (g_X12_laysAside (Int32.ofInt 0) S)) 99 73)), (0, .ref 100), (1, .int a), (2, .int b)] [.int (Int32.ofInt 0), .ref 100] (g_X12_go a (g_X12_laysAside (Int32.ofInt 0) S)) R _
              refine u_cv (rest := []) rfl (by decide) mt_X12_bringsBack v_tyM rfl rfl rfl (Nat.le_of_ble_eq_true rfl) (Nat.le_of_ble_eq_true rfl) (Nat.le_of_ble_eq_true rfl) (fun d' => c_X12_bringsBack L xs n d' (Int32.ofInt 0) (g_X12_go a (g_X12_laysAside (Int32.ofInt 0) S)) R) ?_
              rintro _ _ _ ⟨rfl, rfl, rfl⟩
              refine u_st rfl (fun _ => rfl) ?_
              show u_P L xs n d m_X12_tried 164 [(3, .int ((g_X12_go a (g_X12_laysAside (Int32.ofInt 0) S)) 99 73)), (0, .ref 100), (1, .int a), (2, .int b)] [.int ((g_X12_go a (g_X12_laysAside (Int32.ofInt 0) S)) 99 73)] (g_X12_bringsBack (Int32.ofInt 0) (g_X12_go a (g_X12_laysAside (Int32.ofInt 0) S))) R _
              exact u_ret rfl rfl ⟨_, rfl, rfl, by rw [f_X12_tried, if_neg h1, if_pos h2, if_neg h3_0, if_neg h3_1, if_neg h3_2, if_pos h3_3], by rw [g_X12_tried, if_neg h1, if_pos h2]⟩
            · by_cases h3_4 : b = Int32.ofInt 4
              · refine u_jm (t := 124) (sc1 := []) rfl rfl rfl (by rw [h3_4]; rfl) ?_
                show u_P L xs n d m_X12_tried 124 [(0, .ref 100), (1, .int a), (2, .int b)] [] (g_X12_go a (g_X12_laysAside (Int32.ofInt 0) S)) R _
                refine u_st rfl (fun _ => rfl) ?_
                show u_P L xs n d m_X12_tried 125 [(0, .ref 100), (1, .int a), (2, .int b)] [.ref 100] (g_X12_go a (g_X12_laysAside (Int32.ofInt 0) S)) R _
                refine u_getE (v := (g_X12_go a (g_X12_laysAside (Int32.ofInt 0) S)) 99 74) rfl v_tyM rfl rfl ?_
                refine u_st rfl (fun _ => rfl) ?_
                refine u_st rfl (fun _ => rfl) ?_
                refine u_st rfl (fun _ => rfl) ?_
                refine u_st rfl (fun _ => rfl) ?_
                show u_P L xs n d m_X12_tried 160 [(3, .int ((g_X12_go a (g_X12_laysAside (Int32.ofInt 0) S)) 99 74)), (0, .ref 100), (1, .int a), (2, .int b)] [.int (Int32.ofInt 0), .ref 100] (g_X12_go a (g_X12_laysAside (Int32.ofInt 0) S)) R _
                refine u_cv (rest := []) rfl (by decide) mt_X12_bringsBack v_tyM rfl rfl rfl (Nat.le_of_ble_eq_true rfl) (Nat.le_of_ble_eq_true rfl) (Nat.le_of_ble_eq_true rfl) (fun d' => c_X12_bringsBack L xs n d' (Int32.ofInt 0) (g_X12_go a (g_X12_laysAside (Int32.ofInt 0) S)) R) ?_
                rintro _ _ _ ⟨rfl, rfl, rfl⟩
                refine u_st rfl (fun _ => rfl) ?_
                show u_P L xs n d m_X12_tried 164 [(3, .int ((g_X12_go a (g_X12_laysAside (Int32.ofInt 0) S)) 99 74)), (0, .ref 100), (1, .int a), (2, .int b)] [.int ((g_X12_go a (g_X12_laysAside (Int32.ofInt 0) S)) 99 74)] (g_X12_bringsBack (Int32.ofInt 0) (g_X12_go a (g_X12_laysAside (Int32.ofInt 0) S))) R _
                exact u_ret rfl rfl ⟨_, rfl, rfl, by rw [f_X12_tried, if_neg h1, if_pos h2, if_neg h3_0, if_neg h3_1, if_neg h3_2, if_neg h3_3, if_pos h3_4], by rw [g_X12_tried, if_neg h1, if_pos h2]⟩
              · by_cases h3_5 : b = Int32.ofInt 5
                · refine u_jm (t := 132) (sc1 := []) rfl rfl rfl (by rw [h3_5]; rfl) ?_
                  show u_P L xs n d m_X12_tried 132 [(0, .ref 100), (1, .int a), (2, .int b)] [] (g_X12_go a (g_X12_laysAside (Int32.ofInt 0) S)) R _
                  refine u_st rfl (fun _ => rfl) ?_
                  show u_P L xs n d m_X12_tried 133 [(0, .ref 100), (1, .int a), (2, .int b)] [.ref 100] (g_X12_go a (g_X12_laysAside (Int32.ofInt 0) S)) R _
                  refine u_getE (v := (g_X12_go a (g_X12_laysAside (Int32.ofInt 0) S)) 99 75) rfl v_tyM rfl rfl ?_
                  refine u_st rfl (fun _ => rfl) ?_
                  refine u_st rfl (fun _ => rfl) ?_
                  refine u_st rfl (fun _ => rfl) ?_
                  refine u_st rfl (fun _ => rfl) ?_
                  show u_P L xs n d m_X12_tried 160 [(3, .int ((g_X12_go a (g_X12_laysAside (Int32.ofInt 0) S)) 99 75)), (0, .ref 100), (1, .int a), (2, .int b)] [.int (Int32.ofInt 0), .ref 100] (g_X12_go a (g_X12_laysAside (Int32.ofInt 0) S)) R _
                  refine u_cv (rest := []) rfl (by decide) mt_X12_bringsBack v_tyM rfl rfl rfl (Nat.le_of_ble_eq_true rfl) (Nat.le_of_ble_eq_true rfl) (Nat.le_of_ble_eq_true rfl) (fun d' => c_X12_bringsBack L xs n d' (Int32.ofInt 0) (g_X12_go a (g_X12_laysAside (Int32.ofInt 0) S)) R) ?_
                  rintro _ _ _ ⟨rfl, rfl, rfl⟩
                  refine u_st rfl (fun _ => rfl) ?_
                  show u_P L xs n d m_X12_tried 164 [(3, .int ((g_X12_go a (g_X12_laysAside (Int32.ofInt 0) S)) 99 75)), (0, .ref 100), (1, .int a), (2, .int b)] [.int ((g_X12_go a (g_X12_laysAside (Int32.ofInt 0) S)) 99 75)] (g_X12_bringsBack (Int32.ofInt 0) (g_X12_go a (g_X12_laysAside (Int32.ofInt 0) S))) R _
                  exact u_ret rfl rfl ⟨_, rfl, rfl, by rw [f_X12_tried, if_neg h1, if_pos h2, if_neg h3_0, if_neg h3_1, if_neg h3_2, if_neg h3_3, if_neg h3_4, if_pos h3_5], by rw [g_X12_tried, if_neg h1, if_pos h2]⟩
                · by_cases h3_6 : b = Int32.ofInt 6
                  · refine u_jm (t := 140) (sc1 := []) rfl rfl rfl (by rw [h3_6]; rfl) ?_
                    show u_P L xs n d m_X12_tried 140 [(0, .ref 100), (1, .int a), (2, .int b)] [] (g_X12_go a (g_X12_laysAside (Int32.ofInt 0) S)) R _
                    refine u_st rfl (fun _ => rfl) ?_
                    show u_P L xs n d m_X12_tried 141 [(0, .ref 100), (1, .int a), (2, .int b)] [.ref 100] (g_X12_go a (g_X12_laysAside (Int32.ofInt 0) S)) R _
                    refine u_getE (v := (g_X12_go a (g_X12_laysAside (Int32.ofInt 0) S)) 99 76) rfl v_tyM rfl rfl ?_
                    refine u_st rfl (fun _ => rfl) ?_
                    refine u_st rfl (fun _ => rfl) ?_
                    refine u_st rfl (fun _ => rfl) ?_
                    refine u_st rfl (fun _ => rfl) ?_
                    show u_P L xs n d m_X12_tried 160 [(3, .int ((g_X12_go a (g_X12_laysAside (Int32.ofInt 0) S)) 99 76)), (0, .ref 100), (1, .int a), (2, .int b)] [.int (Int32.ofInt 0), .ref 100] (g_X12_go a (g_X12_laysAside (Int32.ofInt 0) S)) R _
                    refine u_cv (rest := []) rfl (by decide) mt_X12_bringsBack v_tyM rfl rfl rfl (Nat.le_of_ble_eq_true rfl) (Nat.le_of_ble_eq_true rfl) (Nat.le_of_ble_eq_true rfl) (fun d' => c_X12_bringsBack L xs n d' (Int32.ofInt 0) (g_X12_go a (g_X12_laysAside (Int32.ofInt 0) S)) R) ?_
                    rintro _ _ _ ⟨rfl, rfl, rfl⟩
                    refine u_st rfl (fun _ => rfl) ?_
                    show u_P L xs n d m_X12_tried 164 [(3, .int ((g_X12_go a (g_X12_laysAside (Int32.ofInt 0) S)) 99 76)), (0, .ref 100), (1, .int a), (2, .int b)] [.int ((g_X12_go a (g_X12_laysAside (Int32.ofInt 0) S)) 99 76)] (g_X12_bringsBack (Int32.ofInt 0) (g_X12_go a (g_X12_laysAside (Int32.ofInt 0) S))) R _
                    exact u_ret rfl rfl ⟨_, rfl, rfl, by rw [f_X12_tried, if_neg h1, if_pos h2, if_neg h3_0, if_neg h3_1, if_neg h3_2, if_neg h3_3, if_neg h3_4, if_neg h3_5, if_pos h3_6], by rw [g_X12_tried, if_neg h1, if_pos h2]⟩
                  · refine u_jm (t := 148) (sc1 := []) rfl rfl rfl (by rw [g_jmp]; rw [if_pos (by have := z_ne h3_0; have := z_ne h3_1; have := z_ne h3_2; have := z_ne h3_3; have := z_ne h3_4; have := z_ne h3_5; have := z_ne h3_6; omega)]; rfl) ?_
                    show u_P L xs n d m_X12_tried 148 [(0, .ref 100), (1, .int a), (2, .int b)] [] (g_X12_go a (g_X12_laysAside (Int32.ofInt 0) S)) R _
                    refine u_st rfl (fun _ => rfl) ?_
                    show u_P L xs n d m_X12_tried 149 [(0, .ref 100), (1, .int a), (2, .int b)] [.ref 100] (g_X12_go a (g_X12_laysAside (Int32.ofInt 0) S)) R _
                    refine u_getr rfl v_tyM rfl ?_
                    refine u_st rfl (fun _ => rfl) ?_
                    refine u_st rfl (fun _ => rfl) ?_
                    refine u_st rfl (fun _ => rfl) ?_
                    show u_P L xs n d m_X12_tried 156 [(0, .ref 100), (1, .int a), (2, .int b)] [.int (b - (Int32.ofInt 10)), .ref 118] (g_X12_go a (g_X12_laysAside (Int32.ofInt 0) S)) R _
                    refine u_ialdE (v := (g_X12_go a (g_X12_laysAside (Int32.ofInt 0) S)) 117 ((b - (Int32.ofInt 10)).toInt.toNat)) rfl rfl rfl (fun b41 b42 => ?_)
                    refine u_st rfl (fun _ => rfl) ?_
                    refine u_st rfl (fun _ => rfl) ?_
                    refine u_st rfl (fun _ => rfl) ?_
                    show u_P L xs n d m_X12_tried 160 [(3, .int ((g_X12_go a (g_X12_laysAside (Int32.ofInt 0) S)) 117 ((b - (Int32.ofInt 10)).toInt.toNat))), (0, .ref 100), (1, .int a), (2, .int b)] [.int (Int32.ofInt 0), .ref 100] (g_X12_go a (g_X12_laysAside (Int32.ofInt 0) S)) R _
                    refine u_cv (rest := []) rfl (by decide) mt_X12_bringsBack v_tyM rfl rfl rfl (Nat.le_of_ble_eq_true rfl) (Nat.le_of_ble_eq_true rfl) (Nat.le_of_ble_eq_true rfl) (fun d' => c_X12_bringsBack L xs n d' (Int32.ofInt 0) (g_X12_go a (g_X12_laysAside (Int32.ofInt 0) S)) R) ?_
                    rintro _ _ _ ⟨rfl, rfl, rfl⟩
                    refine u_st rfl (fun _ => rfl) ?_
                    show u_P L xs n d m_X12_tried 164 [(3, .int ((g_X12_go a (g_X12_laysAside (Int32.ofInt 0) S)) 117 ((b - (Int32.ofInt 10)).toInt.toNat))), (0, .ref 100), (1, .int a), (2, .int b)] [.int ((g_X12_go a (g_X12_laysAside (Int32.ofInt 0) S)) 117 ((b - (Int32.ofInt 10)).toInt.toNat))] (g_X12_bringsBack (Int32.ofInt 0) (g_X12_go a (g_X12_laysAside (Int32.ofInt 0) S))) R _
                    exact u_ret rfl rfl ⟨_, rfl, rfl, by rw [f_X12_tried, if_neg h1, if_pos h2, if_neg h3_0, if_neg h3_1, if_neg h3_2, if_neg h3_3, if_neg h3_4, if_neg h3_5, if_neg h3_6], by rw [g_X12_tried, if_neg h1, if_pos h2]⟩
    · show u_P L xs n d m_X12_tried 24 [(0, .ref 100), (1, .int a), (2, .int b)] [] S R _
      refine u_st rfl (fun _ => rfl) ?_
      refine u_st rfl (fun _ => rfl) ?_
      refine u_st rfl (fun _ => rfl) ?_
      refine u_st rfl (fun _ => rfl) ?_
      show u_P L xs n d m_X12_tried 29 [(0, .ref 100), (1, .int a), (2, .int b)] [.int (b - (Int32.ofInt 10)), .ref 100] S R _
      refine u_cv (rest := []) rfl (by decide) mt_X12_isTold v_tyM rfl rfl rfl (Nat.le_of_ble_eq_true rfl) (Nat.le_of_ble_eq_true rfl) (Nat.le_of_ble_eq_true rfl) (fun d' => c_X12_isTold L xs n d' (b - (Int32.ofInt 10)) S R) ?_
      rintro _ _ _ ⟨_, rfl, rfl, rfl, rfl⟩
      show u_P L xs n d m_X12_tried 32 [(0, .ref 100), (1, .int a), (2, .int b)] [.int (f_X12_isTold (b - (Int32.ofInt 10)) S)] S R _
      refine u_if_ne rfl (fun h5 => ?_) (fun h5 => ?_)
      · show u_P L xs n d m_X12_tried 37 [(0, .ref 100), (1, .int a), (2, .int b)] [] S R _
        refine u_st rfl (fun _ => rfl) ?_
        refine u_st rfl (fun _ => rfl) ?_
        show u_P L xs n d m_X12_tried 39 [(0, .ref 100), (1, .int a), (2, .int b)] [.int (Int32.ofInt 0), .ref 100] S R _
        refine u_cv (rest := []) rfl (by decide) mt_X12_laysAside v_tyM rfl rfl rfl (Nat.le_of_ble_eq_true rfl) (Nat.le_of_ble_eq_true rfl) (Nat.le_of_ble_eq_true rfl) (fun d' => c_X12_laysAside L xs n d' (Int32.ofInt 0) S R) ?_
        rintro _ _ _ ⟨rfl, rfl, rfl⟩
        refine u_st rfl (fun _ => rfl) ?_
        refine u_st rfl (fun _ => rfl) ?_
        show u_P L xs n d m_X12_tried 44 [(0, .ref 100), (1, .int a), (2, .int b)] [.int a, .ref 100] (g_X12_laysAside (Int32.ofInt 0) S) R _
        refine u_cv (rest := []) rfl (by decide) mt_X12_go v_tyM rfl rfl rfl (Nat.le_of_ble_eq_true rfl) (Nat.le_of_ble_eq_true rfl) (Nat.le_of_ble_eq_true rfl) (fun d' => c_X12_go L xs n d' a (g_X12_laysAside (Int32.ofInt 0) S) R) ?_
        rintro _ _ _ ⟨rfl, rfl, rfl⟩
        refine u_st rfl (fun _ => rfl) ?_
        show u_P L xs n d m_X12_tried 48 [(0, .ref 100), (1, .int a), (2, .int b)] [.int b] (g_X12_go a (g_X12_laysAside (Int32.ofInt 0) S)) R _
        by_cases h6_0 : b = Int32.ofInt 0
        · refine u_jm (t := 92) (sc1 := []) rfl rfl rfl (by rw [h6_0]; rfl) ?_
          show u_P L xs n d m_X12_tried 92 [(0, .ref 100), (1, .int a), (2, .int b)] [] (g_X12_go a (g_X12_laysAside (Int32.ofInt 0) S)) R _
          refine u_st rfl (fun _ => rfl) ?_
          show u_P L xs n d m_X12_tried 93 [(0, .ref 100), (1, .int a), (2, .int b)] [.ref 100] (g_X12_go a (g_X12_laysAside (Int32.ofInt 0) S)) R _
          refine u_getE (v := (g_X12_go a (g_X12_laysAside (Int32.ofInt 0) S)) 99 70) rfl v_tyM rfl rfl ?_
          refine u_st rfl (fun _ => rfl) ?_
          refine u_st rfl (fun _ => rfl) ?_
          refine u_st rfl (fun _ => rfl) ?_
          refine u_st rfl (fun _ => rfl) ?_
          show u_P L xs n d m_X12_tried 160 [(3, .int ((g_X12_go a (g_X12_laysAside (Int32.ofInt 0) S)) 99 70)), (0, .ref 100), (1, .int a), (2, .int b)] [.int (Int32.ofInt 0), .ref 100] (g_X12_go a (g_X12_laysAside (Int32.ofInt 0) S)) R _
          refine u_cv (rest := []) rfl (by decide) mt_X12_bringsBack v_tyM rfl rfl rfl (Nat.le_of_ble_eq_true rfl) (Nat.le_of_ble_eq_true rfl) (Nat.le_of_ble_eq_true rfl) (fun d' => c_X12_bringsBack L xs n d' (Int32.ofInt 0) (g_X12_go a (g_X12_laysAside (Int32.ofInt 0) S)) R) ?_
          rintro _ _ _ ⟨rfl, rfl, rfl⟩
          refine u_st rfl (fun _ => rfl) ?_
          show u_P L xs n d m_X12_tried 164 [(3, .int ((g_X12_go a (g_X12_laysAside (Int32.ofInt 0) S)) 99 70)), (0, .ref 100), (1, .int a), (2, .int b)] [.int ((g_X12_go a (g_X12_laysAside (Int32.ofInt 0) S)) 99 70)] (g_X12_bringsBack (Int32.ofInt 0) (g_X12_go a (g_X12_laysAside (Int32.ofInt 0) S))) R _
          exact u_ret rfl rfl ⟨_, rfl, rfl, by rw [f_X12_tried, if_neg h1, if_neg h2, if_pos h5, if_pos h6_0], by rw [g_X12_tried, if_neg h1, if_neg h2, if_pos h5]⟩
        · by_cases h6_1 : b = Int32.ofInt 1
          · refine u_jm (t := 100) (sc1 := []) rfl rfl rfl (by rw [h6_1]; rfl) ?_
            show u_P L xs n d m_X12_tried 100 [(0, .ref 100), (1, .int a), (2, .int b)] [] (g_X12_go a (g_X12_laysAside (Int32.ofInt 0) S)) R _
            refine u_st rfl (fun _ => rfl) ?_
            show u_P L xs n d m_X12_tried 101 [(0, .ref 100), (1, .int a), (2, .int b)] [.ref 100] (g_X12_go a (g_X12_laysAside (Int32.ofInt 0) S)) R _
            refine u_getE (v := (g_X12_go a (g_X12_laysAside (Int32.ofInt 0) S)) 99 71) rfl v_tyM rfl rfl ?_
            refine u_st rfl (fun _ => rfl) ?_
            refine u_st rfl (fun _ => rfl) ?_
            refine u_st rfl (fun _ => rfl) ?_
            refine u_st rfl (fun _ => rfl) ?_
            show u_P L xs n d m_X12_tried 160 [(3, .int ((g_X12_go a (g_X12_laysAside (Int32.ofInt 0) S)) 99 71)), (0, .ref 100), (1, .int a), (2, .int b)] [.int (Int32.ofInt 0), .ref 100] (g_X12_go a (g_X12_laysAside (Int32.ofInt 0) S)) R _
            refine u_cv (rest := []) rfl (by decide) mt_X12_bringsBack v_tyM rfl rfl rfl (Nat.le_of_ble_eq_true rfl) (Nat.le_of_ble_eq_true rfl) (Nat.le_of_ble_eq_true rfl) (fun d' => c_X12_bringsBack L xs n d' (Int32.ofInt 0) (g_X12_go a (g_X12_laysAside (Int32.ofInt 0) S)) R) ?_
            rintro _ _ _ ⟨rfl, rfl, rfl⟩
            refine u_st rfl (fun _ => rfl) ?_
            show u_P L xs n d m_X12_tried 164 [(3, .int ((g_X12_go a (g_X12_laysAside (Int32.ofInt 0) S)) 99 71)), (0, .ref 100), (1, .int a), (2, .int b)] [.int ((g_X12_go a (g_X12_laysAside (Int32.ofInt 0) S)) 99 71)] (g_X12_bringsBack (Int32.ofInt 0) (g_X12_go a (g_X12_laysAside (Int32.ofInt 0) S))) R _
            exact u_ret rfl rfl ⟨_, rfl, rfl, by rw [f_X12_tried, if_neg h1, if_neg h2, if_pos h5, if_neg h6_0, if_pos h6_1], by rw [g_X12_tried, if_neg h1, if_neg h2, if_pos h5]⟩
          · by_cases h6_2 : b = Int32.ofInt 2
            · refine u_jm (t := 108) (sc1 := []) rfl rfl rfl (by rw [h6_2]; rfl) ?_
              show u_P L xs n d m_X12_tried 108 [(0, .ref 100), (1, .int a), (2, .int b)] [] (g_X12_go a (g_X12_laysAside (Int32.ofInt 0) S)) R _
              refine u_st rfl (fun _ => rfl) ?_
              show u_P L xs n d m_X12_tried 109 [(0, .ref 100), (1, .int a), (2, .int b)] [.ref 100] (g_X12_go a (g_X12_laysAside (Int32.ofInt 0) S)) R _
              refine u_getE (v := (g_X12_go a (g_X12_laysAside (Int32.ofInt 0) S)) 99 72) rfl v_tyM rfl rfl ?_
              refine u_st rfl (fun _ => rfl) ?_
              refine u_st rfl (fun _ => rfl) ?_
              refine u_st rfl (fun _ => rfl) ?_
              refine u_st rfl (fun _ => rfl) ?_
              show u_P L xs n d m_X12_tried 160 [(3, .int ((g_X12_go a (g_X12_laysAside (Int32.ofInt 0) S)) 99 72)), (0, .ref 100), (1, .int a), (2, .int b)] [.int (Int32.ofInt 0), .ref 100] (g_X12_go a (g_X12_laysAside (Int32.ofInt 0) S)) R _
              refine u_cv (rest := []) rfl (by decide) mt_X12_bringsBack v_tyM rfl rfl rfl (Nat.le_of_ble_eq_true rfl) (Nat.le_of_ble_eq_true rfl) (Nat.le_of_ble_eq_true rfl) (fun d' => c_X12_bringsBack L xs n d' (Int32.ofInt 0) (g_X12_go a (g_X12_laysAside (Int32.ofInt 0) S)) R) ?_
              rintro _ _ _ ⟨rfl, rfl, rfl⟩
              refine u_st rfl (fun _ => rfl) ?_
              show u_P L xs n d m_X12_tried 164 [(3, .int ((g_X12_go a (g_X12_laysAside (Int32.ofInt 0) S)) 99 72)), (0, .ref 100), (1, .int a), (2, .int b)] [.int ((g_X12_go a (g_X12_laysAside (Int32.ofInt 0) S)) 99 72)] (g_X12_bringsBack (Int32.ofInt 0) (g_X12_go a (g_X12_laysAside (Int32.ofInt 0) S))) R _
              exact u_ret rfl rfl ⟨_, rfl, rfl, by rw [f_X12_tried, if_neg h1, if_neg h2, if_pos h5, if_neg h6_0, if_neg h6_1, if_pos h6_2], by rw [g_X12_tried, if_neg h1, if_neg h2, if_pos h5]⟩
            · by_cases h6_3 : b = Int32.ofInt 3
              · refine u_jm (t := 116) (sc1 := []) rfl rfl rfl (by rw [h6_3]; rfl) ?_
                show u_P L xs n d m_X12_tried 116 [(0, .ref 100), (1, .int a), (2, .int b)] [] (g_X12_go a (g_X12_laysAside (Int32.ofInt 0) S)) R _
                refine u_st rfl (fun _ => rfl) ?_
                show u_P L xs n d m_X12_tried 117 [(0, .ref 100), (1, .int a), (2, .int b)] [.ref 100] (g_X12_go a (g_X12_laysAside (Int32.ofInt 0) S)) R _
                refine u_getE (v := (g_X12_go a (g_X12_laysAside (Int32.ofInt 0) S)) 99 73) rfl v_tyM rfl rfl ?_
                refine u_st rfl (fun _ => rfl) ?_
                refine u_st rfl (fun _ => rfl) ?_
                refine u_st rfl (fun _ => rfl) ?_
                refine u_st rfl (fun _ => rfl) ?_
                show u_P L xs n d m_X12_tried 160 [(3, .int ((g_X12_go a (g_X12_laysAside (Int32.ofInt 0) S)) 99 73)), (0, .ref 100), (1, .int a), (2, .int b)] [.int (Int32.ofInt 0), .ref 100] (g_X12_go a (g_X12_laysAside (Int32.ofInt 0) S)) R _
                refine u_cv (rest := []) rfl (by decide) mt_X12_bringsBack v_tyM rfl rfl rfl (Nat.le_of_ble_eq_true rfl) (Nat.le_of_ble_eq_true rfl) (Nat.le_of_ble_eq_true rfl) (fun d' => c_X12_bringsBack L xs n d' (Int32.ofInt 0) (g_X12_go a (g_X12_laysAside (Int32.ofInt 0) S)) R) ?_
                rintro _ _ _ ⟨rfl, rfl, rfl⟩
                refine u_st rfl (fun _ => rfl) ?_
                show u_P L xs n d m_X12_tried 164 [(3, .int ((g_X12_go a (g_X12_laysAside (Int32.ofInt 0) S)) 99 73)), (0, .ref 100), (1, .int a), (2, .int b)] [.int ((g_X12_go a (g_X12_laysAside (Int32.ofInt 0) S)) 99 73)] (g_X12_bringsBack (Int32.ofInt 0) (g_X12_go a (g_X12_laysAside (Int32.ofInt 0) S))) R _
                exact u_ret rfl rfl ⟨_, rfl, rfl, by rw [f_X12_tried, if_neg h1, if_neg h2, if_pos h5, if_neg h6_0, if_neg h6_1, if_neg h6_2, if_pos h6_3], by rw [g_X12_tried, if_neg h1, if_neg h2, if_pos h5]⟩
              · by_cases h6_4 : b = Int32.ofInt 4
                · refine u_jm (t := 124) (sc1 := []) rfl rfl rfl (by rw [h6_4]; rfl) ?_
                  show u_P L xs n d m_X12_tried 124 [(0, .ref 100), (1, .int a), (2, .int b)] [] (g_X12_go a (g_X12_laysAside (Int32.ofInt 0) S)) R _
                  refine u_st rfl (fun _ => rfl) ?_
                  show u_P L xs n d m_X12_tried 125 [(0, .ref 100), (1, .int a), (2, .int b)] [.ref 100] (g_X12_go a (g_X12_laysAside (Int32.ofInt 0) S)) R _
                  refine u_getE (v := (g_X12_go a (g_X12_laysAside (Int32.ofInt 0) S)) 99 74) rfl v_tyM rfl rfl ?_
                  refine u_st rfl (fun _ => rfl) ?_
                  refine u_st rfl (fun _ => rfl) ?_
                  refine u_st rfl (fun _ => rfl) ?_
                  refine u_st rfl (fun _ => rfl) ?_
                  show u_P L xs n d m_X12_tried 160 [(3, .int ((g_X12_go a (g_X12_laysAside (Int32.ofInt 0) S)) 99 74)), (0, .ref 100), (1, .int a), (2, .int b)] [.int (Int32.ofInt 0), .ref 100] (g_X12_go a (g_X12_laysAside (Int32.ofInt 0) S)) R _
                  refine u_cv (rest := []) rfl (by decide) mt_X12_bringsBack v_tyM rfl rfl rfl (Nat.le_of_ble_eq_true rfl) (Nat.le_of_ble_eq_true rfl) (Nat.le_of_ble_eq_true rfl) (fun d' => c_X12_bringsBack L xs n d' (Int32.ofInt 0) (g_X12_go a (g_X12_laysAside (Int32.ofInt 0) S)) R) ?_
                  rintro _ _ _ ⟨rfl, rfl, rfl⟩
                  refine u_st rfl (fun _ => rfl) ?_
                  show u_P L xs n d m_X12_tried 164 [(3, .int ((g_X12_go a (g_X12_laysAside (Int32.ofInt 0) S)) 99 74)), (0, .ref 100), (1, .int a), (2, .int b)] [.int ((g_X12_go a (g_X12_laysAside (Int32.ofInt 0) S)) 99 74)] (g_X12_bringsBack (Int32.ofInt 0) (g_X12_go a (g_X12_laysAside (Int32.ofInt 0) S))) R _
                  exact u_ret rfl rfl ⟨_, rfl, rfl, by rw [f_X12_tried, if_neg h1, if_neg h2, if_pos h5, if_neg h6_0, if_neg h6_1, if_neg h6_2, if_neg h6_3, if_pos h6_4], by rw [g_X12_tried, if_neg h1, if_neg h2, if_pos h5]⟩
                · by_cases h6_5 : b = Int32.ofInt 5
                  · refine u_jm (t := 132) (sc1 := []) rfl rfl rfl (by rw [h6_5]; rfl) ?_
                    show u_P L xs n d m_X12_tried 132 [(0, .ref 100), (1, .int a), (2, .int b)] [] (g_X12_go a (g_X12_laysAside (Int32.ofInt 0) S)) R _
                    refine u_st rfl (fun _ => rfl) ?_
                    show u_P L xs n d m_X12_tried 133 [(0, .ref 100), (1, .int a), (2, .int b)] [.ref 100] (g_X12_go a (g_X12_laysAside (Int32.ofInt 0) S)) R _
                    refine u_getE (v := (g_X12_go a (g_X12_laysAside (Int32.ofInt 0) S)) 99 75) rfl v_tyM rfl rfl ?_
                    refine u_st rfl (fun _ => rfl) ?_
                    refine u_st rfl (fun _ => rfl) ?_
                    refine u_st rfl (fun _ => rfl) ?_
                    refine u_st rfl (fun _ => rfl) ?_
                    show u_P L xs n d m_X12_tried 160 [(3, .int ((g_X12_go a (g_X12_laysAside (Int32.ofInt 0) S)) 99 75)), (0, .ref 100), (1, .int a), (2, .int b)] [.int (Int32.ofInt 0), .ref 100] (g_X12_go a (g_X12_laysAside (Int32.ofInt 0) S)) R _
                    refine u_cv (rest := []) rfl (by decide) mt_X12_bringsBack v_tyM rfl rfl rfl (Nat.le_of_ble_eq_true rfl) (Nat.le_of_ble_eq_true rfl) (Nat.le_of_ble_eq_true rfl) (fun d' => c_X12_bringsBack L xs n d' (Int32.ofInt 0) (g_X12_go a (g_X12_laysAside (Int32.ofInt 0) S)) R) ?_
                    rintro _ _ _ ⟨rfl, rfl, rfl⟩
                    refine u_st rfl (fun _ => rfl) ?_
                    show u_P L xs n d m_X12_tried 164 [(3, .int ((g_X12_go a (g_X12_laysAside (Int32.ofInt 0) S)) 99 75)), (0, .ref 100), (1, .int a), (2, .int b)] [.int ((g_X12_go a (g_X12_laysAside (Int32.ofInt 0) S)) 99 75)] (g_X12_bringsBack (Int32.ofInt 0) (g_X12_go a (g_X12_laysAside (Int32.ofInt 0) S))) R _
                    exact u_ret rfl rfl ⟨_, rfl, rfl, by rw [f_X12_tried, if_neg h1, if_neg h2, if_pos h5, if_neg h6_0, if_neg h6_1, if_neg h6_2, if_neg h6_3, if_neg h6_4, if_pos h6_5], by rw [g_X12_tried, if_neg h1, if_neg h2, if_pos h5]⟩
                  · by_cases h6_6 : b = Int32.ofInt 6
                    · refine u_jm (t := 140) (sc1 := []) rfl rfl rfl (by rw [h6_6]; rfl) ?_
                      show u_P L xs n d m_X12_tried 140 [(0, .ref 100), (1, .int a), (2, .int b)] [] (g_X12_go a (g_X12_laysAside (Int32.ofInt 0) S)) R _
                      refine u_st rfl (fun _ => rfl) ?_
                      show u_P L xs n d m_X12_tried 141 [(0, .ref 100), (1, .int a), (2, .int b)] [.ref 100] (g_X12_go a (g_X12_laysAside (Int32.ofInt 0) S)) R _
                      refine u_getE (v := (g_X12_go a (g_X12_laysAside (Int32.ofInt 0) S)) 99 76) rfl v_tyM rfl rfl ?_
                      refine u_st rfl (fun _ => rfl) ?_
                      refine u_st rfl (fun _ => rfl) ?_
                      refine u_st rfl (fun _ => rfl) ?_
                      refine u_st rfl (fun _ => rfl) ?_
                      show u_P L xs n d m_X12_tried 160 [(3, .int ((g_X12_go a (g_X12_laysAside (Int32.ofInt 0) S)) 99 76)), (0, .ref 100), (1, .int a), (2, .int b)] [.int (Int32.ofInt 0), .ref 100] (g_X12_go a (g_X12_laysAside (Int32.ofInt 0) S)) R _
                      refine u_cv (rest := []) rfl (by decide) mt_X12_bringsBack v_tyM rfl rfl rfl (Nat.le_of_ble_eq_true rfl) (Nat.le_of_ble_eq_true rfl) (Nat.le_of_ble_eq_true rfl) (fun d' => c_X12_bringsBack L xs n d' (Int32.ofInt 0) (g_X12_go a (g_X12_laysAside (Int32.ofInt 0) S)) R) ?_
                      rintro _ _ _ ⟨rfl, rfl, rfl⟩
                      refine u_st rfl (fun _ => rfl) ?_
                      show u_P L xs n d m_X12_tried 164 [(3, .int ((g_X12_go a (g_X12_laysAside (Int32.ofInt 0) S)) 99 76)), (0, .ref 100), (1, .int a), (2, .int b)] [.int ((g_X12_go a (g_X12_laysAside (Int32.ofInt 0) S)) 99 76)] (g_X12_bringsBack (Int32.ofInt 0) (g_X12_go a (g_X12_laysAside (Int32.ofInt 0) S))) R _
                      exact u_ret rfl rfl ⟨_, rfl, rfl, by rw [f_X12_tried, if_neg h1, if_neg h2, if_pos h5, if_neg h6_0, if_neg h6_1, if_neg h6_2, if_neg h6_3, if_neg h6_4, if_neg h6_5, if_pos h6_6], by rw [g_X12_tried, if_neg h1, if_neg h2, if_pos h5]⟩
                    · refine u_jm (t := 148) (sc1 := []) rfl rfl rfl (by rw [g_jmp]; rw [if_pos (by have := z_ne h6_0; have := z_ne h6_1; have := z_ne h6_2; have := z_ne h6_3; have := z_ne h6_4; have := z_ne h6_5; have := z_ne h6_6; omega)]; rfl) ?_
                      show u_P L xs n d m_X12_tried 148 [(0, .ref 100), (1, .int a), (2, .int b)] [] (g_X12_go a (g_X12_laysAside (Int32.ofInt 0) S)) R _
                      refine u_st rfl (fun _ => rfl) ?_
                      show u_P L xs n d m_X12_tried 149 [(0, .ref 100), (1, .int a), (2, .int b)] [.ref 100] (g_X12_go a (g_X12_laysAside (Int32.ofInt 0) S)) R _
                      refine u_getr rfl v_tyM rfl ?_
                      refine u_st rfl (fun _ => rfl) ?_
                      refine u_st rfl (fun _ => rfl) ?_
                      refine u_st rfl (fun _ => rfl) ?_
                      show u_P L xs n d m_X12_tried 156 [(0, .ref 100), (1, .int a), (2, .int b)] [.int (b - (Int32.ofInt 10)), .ref 118] (g_X12_go a (g_X12_laysAside (Int32.ofInt 0) S)) R _
                      refine u_ialdE (v := (g_X12_go a (g_X12_laysAside (Int32.ofInt 0) S)) 117 ((b - (Int32.ofInt 10)).toInt.toNat)) rfl rfl rfl (fun b71 b72 => ?_)
                      refine u_st rfl (fun _ => rfl) ?_
                      refine u_st rfl (fun _ => rfl) ?_
                      refine u_st rfl (fun _ => rfl) ?_
                      show u_P L xs n d m_X12_tried 160 [(3, .int ((g_X12_go a (g_X12_laysAside (Int32.ofInt 0) S)) 117 ((b - (Int32.ofInt 10)).toInt.toNat))), (0, .ref 100), (1, .int a), (2, .int b)] [.int (Int32.ofInt 0), .ref 100] (g_X12_go a (g_X12_laysAside (Int32.ofInt 0) S)) R _
                      refine u_cv (rest := []) rfl (by decide) mt_X12_bringsBack v_tyM rfl rfl rfl (Nat.le_of_ble_eq_true rfl) (Nat.le_of_ble_eq_true rfl) (Nat.le_of_ble_eq_true rfl) (fun d' => c_X12_bringsBack L xs n d' (Int32.ofInt 0) (g_X12_go a (g_X12_laysAside (Int32.ofInt 0) S)) R) ?_
                      rintro _ _ _ ⟨rfl, rfl, rfl⟩
                      refine u_st rfl (fun _ => rfl) ?_
                      show u_P L xs n d m_X12_tried 164 [(3, .int ((g_X12_go a (g_X12_laysAside (Int32.ofInt 0) S)) 117 ((b - (Int32.ofInt 10)).toInt.toNat))), (0, .ref 100), (1, .int a), (2, .int b)] [.int ((g_X12_go a (g_X12_laysAside (Int32.ofInt 0) S)) 117 ((b - (Int32.ofInt 10)).toInt.toNat))] (g_X12_bringsBack (Int32.ofInt 0) (g_X12_go a (g_X12_laysAside (Int32.ofInt 0) S))) R _
                      exact u_ret rfl rfl ⟨_, rfl, rfl, by rw [f_X12_tried, if_neg h1, if_neg h2, if_pos h5, if_neg h6_0, if_neg h6_1, if_neg h6_2, if_neg h6_3, if_neg h6_4, if_neg h6_5, if_neg h6_6], by rw [g_X12_tried, if_neg h1, if_neg h2, if_pos h5]⟩
      · show u_P L xs n d m_X12_tried 35 [(0, .ref 100), (1, .int a), (2, .int b)] [] S R _
        refine u_st rfl (fun _ => rfl) ?_
        show u_P L xs n d m_X12_tried 36 [(0, .ref 100), (1, .int a), (2, .int b)] [.int (Int32.ofInt (-1))] S R _
        exact u_ret rfl rfl ⟨_, rfl, rfl, by rw [f_X12_tried, if_neg h1, if_neg h2, if_neg h5], by rw [g_X12_tried, if_neg h1, if_neg h2, if_neg h5]⟩
noncomputable abbrev m_X12_check : g_M := (g_cn 12, yX12_check, cX12_check, 3, (some .int), g_look2 ttX12_check)
set_option maxRecDepth 20000 in
theorem mt_X12_check : g_mt 296 = some m_X12_check := rfl
noncomputable def D_X12_check_30  (H30 : Int32 → Int32 → v_Sf → Prop) (K : Int32 → v_Sf → Prop) (x1 : Int32) (x2 : Int32) (S : v_Sf) : Prop := ((x1 ≤ x2 → K (Int32.ofInt (-1)) S) ∧ (¬ (x1 ≤ x2) → (0 ≤ x2.toInt → x2.toInt < 12 → (((S 116 x2.toInt.toNat) = 0 → (((f_X12_byteAt x2 S) = (Int32.ofInt 0) → H30 x1 (x2 + (Int32.ofInt 1)) S) ∧ (¬ ((f_X12_byteAt x2 S) = (Int32.ofInt 0)) → K x2 S))) ∧ (¬ ((S 116 x2.toInt.toNat) = 0) → (0 ≤ x2.toInt → x2.toInt < 12 → (((f_X12_byteAt x2 S) = (S 117 x2.toInt.toNat) → H30 x1 (x2 + (Int32.ofInt 1)) S) ∧ (¬ ((f_X12_byteAt x2 S) = (S 117 x2.toInt.toNat)) → K x2 S))))))))
noncomputable def D_X12_check (a : Int32) (H30 : Int32 → Int32 → v_Sf → Prop) (K : Int32 → v_Sf → Prop) (S : v_Sf) : Prop := (((z_in a 0 12) = 0 → K (Int32.ofInt (-2)) S) ∧ (¬ ((z_in a 0 12) = 0) → ((a ≤ (S 99 1) → H30 a (Int32.ofInt 0) (z_s S 99 1 (Int32.ofInt 0))) ∧ (¬ (a ≤ (S 99 1)) → K (Int32.ofInt (-2)) S))))
set_option maxRecDepth 4000 in
theorem hd_X12_check (L : Nat) (xs : Nat → Int32) {R : v_Rf} (a : Int32) (H30 : Int32 → Int32 → v_Sf → Prop) (K : Int32 → v_Sf → Prop) (k30 : ∀ (x1 : Int32) (x2 : Int32) (S : v_Sf), H30 x1 x2 S → D_X12_check_30 H30 K x1 x2 S) : ∀ n, (∀ (d : Nat) (x1 : Int32) (x2 : Int32) (S : v_Sf), H30 x1 x2 S → u_P L xs n d m_X12_check 30 [(0, .ref 100), (1, .int x1), (2, .int x2)] [] S R (z_Q R K)) := by
  intro n
  induction n using Nat.strongRecOn with
  | ind n ih =>
    intro d x1 x2 S hD
    have hD := k30 x1 x2 S hD
    unfold D_X12_check_30 at hD
    show u_P L xs n d m_X12_check 30 [(0, .ref 100), (1, .int x1), (2, .int x2)] [] S R _
    refine u_st1 rfl (fun _ => rfl) (fun m hm => ?_)
    refine u_st rfl (fun _ => rfl) ?_
    show u_P L xs m d m_X12_check 32 [(0, .ref 100), (1, .int x1), (2, .int x2)] [.int x1, .int x2] S R _
    refine u_ic_ge rfl (fun h1 => ?_) (fun h1 => ?_)
    · have hD := hD.1 h1
      show u_P L xs m d m_X12_check 70 [(0, .ref 100), (1, .int x1), (2, .int x2)] [] S R _
      refine u_st rfl (fun _ => rfl) ?_
      show u_P L xs m d m_X12_check 71 [(0, .ref 100), (1, .int x1), (2, .int x2)] [.int (Int32.ofInt (-1))] S R _
      exact u_ret rfl rfl ⟨_, rfl, rfl, hD⟩
    · have hD := hD.2 h1
      show u_P L xs m d m_X12_check 35 [(0, .ref 100), (1, .int x1), (2, .int x2)] [] S R _
      refine u_st rfl (fun _ => rfl) ?_
      refine u_st rfl (fun _ => rfl) ?_
      show u_P L xs m d m_X12_check 37 [(0, .ref 100), (1, .int x1), (2, .int x2)] [.int x2, .ref 100] S R _
      refine u_cv (rest := []) rfl (by decide) mt_X12_byteAt v_tyM rfl rfl rfl (Nat.le_of_ble_eq_true rfl) (Nat.le_of_ble_eq_true rfl) (Nat.le_of_ble_eq_true rfl) (fun d' => c_X12_byteAt L xs m d' x2 S R) ?_
      rintro _ _ _ ⟨_, rfl, rfl, rfl, rfl⟩
      refine u_st rfl (fun _ => rfl) ?_
      show u_P L xs m d m_X12_check 41 [(0, .ref 100), (1, .int x1), (2, .int x2)] [.ref 100, .int (f_X12_byteAt x2 S)] S R _
      refine u_getr rfl v_tyM rfl ?_
      refine u_st rfl (fun _ => rfl) ?_
      show u_P L xs m d m_X12_check 45 [(0, .ref 100), (1, .int x1), (2, .int x2)] [.int x2, .ref 117, .int (f_X12_byteAt x2 S)] S R _
      refine u_baldE (v := S 116 x2.toInt.toNat) rfl rfl (by decide) rfl (fun b21 b22 => ?_)
      have hD := hD b21 b22
      show u_P L xs m d m_X12_check 46 [(0, .ref 100), (1, .int x1), (2, .int x2)] [.int (S 116 x2.toInt.toNat), .int (f_X12_byteAt x2 S)] S R _
      refine u_if_eq rfl (fun h3 => ?_) (fun h3 => ?_)
      · have hD := hD.1 h3
        show u_P L xs m d m_X12_check 58 [(0, .ref 100), (1, .int x1), (2, .int x2)] [.int (f_X12_byteAt x2 S)] S R _
        refine u_st rfl (fun _ => rfl) ?_
        show u_P L xs m d m_X12_check 59 [(0, .ref 100), (1, .int x1), (2, .int x2)] [.int (Int32.ofInt 0), .int (f_X12_byteAt x2 S)] S R _
        refine u_ic_eq rfl (fun h4 => ?_) (fun h4 => ?_)
        · have hD := hD.1 h4
          show u_P L xs m d m_X12_check 64 [(0, .ref 100), (1, .int x1), (2, .int x2)] [] S R _
          refine u_st rfl (fun _ => rfl) ?_
          refine u_st rfl (fun _ => rfl) ?_
          refine u_lc (b := [(0, .ref 100), (1, .int x1), (2, .int (x2 + (Int32.ofInt 1)))]) (show ([2, 0, 1] : List Nat).Nodup by decide) (show ([0, 1, 2] : List Nat).Nodup by decide) (fun i => match i with | 0 => rfl | 1 => rfl | 2 => rfl | _ + 3 => rfl) ?_
          exact (ih m hm) d x1 (x2 + (Int32.ofInt 1)) S hD
        · have hD := hD.2 h4
          show u_P L xs m d m_X12_check 62 [(0, .ref 100), (1, .int x1), (2, .int x2)] [] S R _
          refine u_st rfl (fun _ => rfl) ?_
          show u_P L xs m d m_X12_check 63 [(0, .ref 100), (1, .int x1), (2, .int x2)] [.int x2] S R _
          exact u_ret rfl rfl ⟨_, rfl, rfl, hD⟩
      · have hD := hD.2 h3
        show u_P L xs m d m_X12_check 49 [(0, .ref 100), (1, .int x1), (2, .int x2)] [.int (f_X12_byteAt x2 S)] S R _
        refine u_st rfl (fun _ => rfl) ?_
        show u_P L xs m d m_X12_check 50 [(0, .ref 100), (1, .int x1), (2, .int x2)] [.ref 100, .int (f_X12_byteAt x2 S)] S R _
        refine u_getr rfl v_tyM rfl ?_
        refine u_st rfl (fun _ => rfl) ?_
        show u_P L xs m d m_X12_check 54 [(0, .ref 100), (1, .int x1), (2, .int x2)] [.int x2, .ref 118, .int (f_X12_byteAt x2 S)] S R _
        refine u_ialdE (v := S 117 x2.toInt.toNat) rfl rfl rfl (fun b51 b52 => ?_)
        have hD := hD b51 b52
        show u_P L xs m d m_X12_check 55 [(0, .ref 100), (1, .int x1), (2, .int x2)] [.int (S 117 x2.toInt.toNat), .int (f_X12_byteAt x2 S)] S R _
        refine u_st rfl (fun _ => rfl) ?_
        show u_P L xs m d m_X12_check 59 [(0, .ref 100), (1, .int x1), (2, .int x2)] [.int (S 117 x2.toInt.toNat), .int (f_X12_byteAt x2 S)] S R _
        refine u_ic_eq rfl (fun h6 => ?_) (fun h6 => ?_)
        · have hD := hD.1 h6
          show u_P L xs m d m_X12_check 64 [(0, .ref 100), (1, .int x1), (2, .int x2)] [] S R _
          refine u_st rfl (fun _ => rfl) ?_
          refine u_st rfl (fun _ => rfl) ?_
          refine u_lc (b := [(0, .ref 100), (1, .int x1), (2, .int (x2 + (Int32.ofInt 1)))]) (show ([2, 0, 1] : List Nat).Nodup by decide) (show ([0, 1, 2] : List Nat).Nodup by decide) (fun i => match i with | 0 => rfl | 1 => rfl | 2 => rfl | _ + 3 => rfl) ?_
          exact (ih m hm) d x1 (x2 + (Int32.ofInt 1)) S hD
        · have hD := hD.2 h6
          show u_P L xs m d m_X12_check 62 [(0, .ref 100), (1, .int x1), (2, .int x2)] [] S R _
          refine u_st rfl (fun _ => rfl) ?_
          show u_P L xs m d m_X12_check 63 [(0, .ref 100), (1, .int x1), (2, .int x2)] [.int x2] S R _
          exact u_ret rfl rfl ⟨_, rfl, rfl, hD⟩
set_option maxRecDepth 4000 in
theorem w_X12_check (L : Nat) (xs : Nat → Int32) {R : v_Rf} (a : Int32) (H30 : Int32 → Int32 → v_Sf → Prop) (K : Int32 → v_Sf → Prop) (k30 : ∀ (x1 : Int32) (x2 : Int32) (S : v_Sf), H30 x1 x2 S → D_X12_check_30 H30 K x1 x2 S) (n d : Nat) (S : v_Sf) (hD : D_X12_check a H30 K S) : u_P L xs n d m_X12_check 0 (lv_args 0 [.ref 100, .int a]) [] S R (z_Q R K) := by
  unfold D_X12_check at hD
  show u_P L xs n d m_X12_check 0 [(0, .ref 100), (1, .int a)] [] S R _
  refine u_st rfl (fun _ => rfl) ?_
  refine u_st rfl (fun _ => rfl) ?_
  refine u_st rfl (fun _ => rfl) ?_
  refine u_st rfl (fun _ => rfl) ?_
  show u_P L xs n d m_X12_check 6 [(0, .ref 100), (1, .int a)] [.long (Int64.ofInt 12), .long (Int64.ofNat 0), .long a.toInt64] S R _
  refine u_cs (ac := [.long a.toInt64, .long (Int64.ofNat 0), .long (Int64.ofInt 12)]) (rest := []) rfl (by decide) mt_X12_lies (fun _ => rfl) (Nat.le_of_ble_eq_true rfl) (Nat.le_of_ble_eq_true rfl) (fun d' => z_liesC L xs n d' a (Int64.ofNat 0) (Int64.ofInt 12) (lo := 0) (hi := 12) rfl rfl S R) ?_
  rintro _ _ _ ⟨_, rfl, rfl, rfl, rfl⟩
  show u_P L xs n d m_X12_check 9 [(0, .ref 100), (1, .int a)] [.int (z_in a 0 12)] S R _
  refine u_if_eq rfl (fun h1 => ?_) (fun h1 => ?_)
  · have hD := hD.1 h1
    show u_P L xs n d m_X12_check 20 [(0, .ref 100), (1, .int a)] [] S R _
    refine u_st rfl (fun _ => rfl) ?_
    show u_P L xs n d m_X12_check 22 [(0, .ref 100), (1, .int a)] [.int (Int32.ofInt (-2))] S R _
    exact u_ret rfl rfl ⟨_, rfl, rfl, hD⟩
  · have hD := hD.2 h1
    show u_P L xs n d m_X12_check 12 [(0, .ref 100), (1, .int a)] [] S R _
    refine u_st rfl (fun _ => rfl) ?_
    refine u_st rfl (fun _ => rfl) ?_
    show u_P L xs n d m_X12_check 14 [(0, .ref 100), (1, .int a)] [.ref 100, .int a] S R _
    refine u_getE (v := S 99 1) rfl v_tyM rfl rfl ?_
    show u_P L xs n d m_X12_check 17 [(0, .ref 100), (1, .int a)] [.int (S 99 1), .int a] S R _
    refine u_ic_le rfl (fun h2 => ?_) (fun h2 => ?_)
    · have hD := hD.1 h2
      show u_P L xs n d m_X12_check 23 [(0, .ref 100), (1, .int a)] [] S R _
      refine u_st rfl (fun _ => rfl) ?_
      refine u_st rfl (fun _ => rfl) ?_
      show u_P L xs n d m_X12_check 25 [(0, .ref 100), (1, .int a)] [.int (Int32.ofInt 0), .ref 100] S R _
      refine u_put rfl v_tyM rfl ?_
      refine u_st rfl (fun _ => rfl) ?_
      refine u_st rfl (fun _ => rfl) ?_
      refine u_lc (b := [(0, .ref 100), (1, .int a), (2, .int (Int32.ofInt 0))]) (show ([2, 0, 1] : List Nat).Nodup by decide) (show ([0, 1, 2] : List Nat).Nodup by decide) (fun i => match i with | 0 => rfl | 1 => rfl | 2 => rfl | _ + 3 => rfl) ?_
      exact (hd_X12_check L xs a H30 K k30 n) d a (Int32.ofInt 0) (z_s S 99 1 (Int32.ofInt 0)) hD
    · have hD := hD.2 h2
      show u_P L xs n d m_X12_check 20 [(0, .ref 100), (1, .int a)] [] S R _
      refine u_st rfl (fun _ => rfl) ?_
      show u_P L xs n d m_X12_check 22 [(0, .ref 100), (1, .int a)] [.int (Int32.ofInt (-2))] S R _
      exact u_ret rfl rfl ⟨_, rfl, rfl, hD⟩
noncomputable def r_X12_check_30 (x1 : Int32) : Nat → Nat → v_Sf → Int32 × v_Sf
  | 0, k30, S => (Int32.ofInt (-1), S)
  | r + 1, k30, S => (if (S 116 (z_i k30).toInt.toNat) = 0 then (if (f_X12_byteAt (z_i k30) S) = (Int32.ofInt 0) then r_X12_check_30 x1 r (k30 + 1) S else ((z_i k30), S)) else (if (f_X12_byteAt (z_i k30) S) = (S 117 (z_i k30).toInt.toNat) then r_X12_check_30 x1 r (k30 + 1) S else ((z_i k30), S)))
noncomputable def F_X12_check (a : Int32) (S : v_Sf) : Int32 × v_Sf := (if (z_in a 0 12) = 0 then (Int32.ofInt (-2), S) else (if a ≤ (S 99 1) then r_X12_check_30 a (a.toInt.toNat - 0) 0 (z_s S 99 1 (Int32.ofInt 0)) else (Int32.ofInt (-2), S)))
noncomputable def f_X12_check (a : Int32) (S : v_Sf) : Int32 := (F_X12_check a S).1
noncomputable def g_X12_check (a : Int32) (S : v_Sf) : v_Sf := (F_X12_check a S).2
theorem c_X12_check (L : Nat) (xs : Nat → Int32) (n d : Nat) (a : Int32) (S : v_Sf) (R : v_Rf) : u_P L xs n d m_X12_check 0 (lv_args 0 [.ref 100, .int a]) [] S R (z_Q R (fun v S1 => f_X12_check a S = v ∧ g_X12_check a S = S1)) := by
  refine w_X12_check L xs a (fun y1 y2 T => ∃ (k30 : Nat), k30 ≤ a.toInt.toNat ∧ z_i k30 = y2 ∧ a = y1 ∧ r_X12_check_30 a (a.toInt.toNat - k30) k30 T = F_X12_check a S) (fun v S1 => f_X12_check a S = v ∧ g_X12_check a S = S1) ?_ n d S ?_
  · rintro _ _ S1 ⟨k30, hkk, rfl, rfl, e⟩
    unfold D_X12_check_30
    rcases Nat.lt_or_ge k30 (a.toInt.toNat) with hk | hk
    · rw [show a.toInt.toNat - k30 = (a.toInt.toNat - (k30 + 1)) + 1 by omega, r_X12_check_30] at e
      refine ⟨fun q1 => ?_, fun q1 => ?_⟩
      · exact absurd hk (Nat.not_lt.mpr (z_leV q1 (by omega)))
      · intro _ _
        refine ⟨fun q2 => ?_, fun q2 => ?_⟩
        · refine ⟨fun q3 => ?_, fun q3 => ?_⟩
          · rw [if_pos q2, if_pos q3] at e
            exact ⟨(k30 + 1), by omega, (z_i1 k30).symm, rfl, e⟩
          · rw [if_pos q2, if_neg q3] at e
            have e1 := congrArg Prod.fst e.symm
            have e2 := congrArg Prod.snd e.symm
            exact ⟨e1, e2⟩
        · intro _ _
          refine ⟨fun q4 => ?_, fun q4 => ?_⟩
          · rw [if_neg q2, if_pos q4] at e
            exact ⟨(k30 + 1), by omega, (z_i1 k30).symm, rfl, e⟩
          · rw [if_neg q2, if_neg q4] at e
            have e1 := congrArg Prod.fst e.symm
            have e2 := congrArg Prod.snd e.symm
            exact ⟨e1, e2⟩
    · rw [show a.toInt.toNat - k30 = 0 by omega, r_X12_check_30] at e
      refine ⟨fun q5 => ?_, fun q5 => ?_⟩
      · have e1 := congrArg Prod.fst e.symm
        have e2 := congrArg Prod.snd e.symm
        exact ⟨e1, e2⟩
      · exact absurd hk (Nat.not_le.mpr (z_ltV q5 (by omega)))
  · unfold D_X12_check
    refine ⟨fun q6 => ?_, fun q6 => ?_⟩
    · have e : (Int32.ofInt (-2), S) = F_X12_check a S := by rw [F_X12_check, if_pos q6]
      have e1 := congrArg Prod.fst e.symm
      have e2 := congrArg Prod.snd e.symm
      exact ⟨e1, e2⟩
    · refine ⟨fun q7 => ?_, fun q7 => ?_⟩
      · have e : r_X12_check_30 a (a.toInt.toNat - 0) 0 (z_s S 99 1 (Int32.ofInt 0)) = F_X12_check a S := by rw [F_X12_check, if_neg q6, if_pos q7]
        exact ⟨0, by omega, rfl, rfl, e⟩
      · have e : (Int32.ofInt (-2), S) = F_X12_check a S := by rw [F_X12_check, if_neg q6, if_neg q7]
        have e1 := congrArg Prod.fst e.symm
        have e2 := congrArg Prod.snd e.symm
        exact ⟨e1, e2⟩
noncomputable def f_X12_areGusts (a : Int32) (b : Int32) (i : Int32) (S : v_Sf) : Int32 := (if a ≤ 0 then Int32.ofInt 0 else (if ¬ (a &&& ((f_X12_toldGusts S) ^^^ (Int32.ofInt (-1)))) = 0 then Int32.ofInt 0 else (if (z_in ((f_X12_sizeOf a)) b.toInt i.toInt) = 0 then Int32.ofInt 0 else Int32.ofInt 1)))
set_option maxRecDepth 4000 in
theorem c_X12_areGusts (L : Nat) (xs : Nat → Int32) (n d : Nat) (a : Int32) (b : Int32) (i : Int32) (S : v_Sf) (R : v_Rf) : u_P L xs n d m_X12_areGusts 0 (lv_args 0 [.ref 100, .int a, .int b, .int i]) [] S R (z_Q R (fun v S1 => f_X12_areGusts a b i S = v ∧ S = S1)) := by
  show u_P L xs n d m_X12_areGusts 0 [(0, .ref 100), (1, .int a), (2, .int b), (3, .int i)] [] S R _
  refine u_st rfl (fun _ => rfl) ?_
  show u_P L xs n d m_X12_areGusts 1 [(0, .ref 100), (1, .int a), (2, .int b), (3, .int i)] [.int a] S R _
  refine u_if_le rfl (fun h1 => ?_) (fun h1 => ?_)
  · show u_P L xs n d m_X12_areGusts 34 [(0, .ref 100), (1, .int a), (2, .int b), (3, .int i)] [] S R _
    refine u_st rfl (fun _ => rfl) ?_
    show u_P L xs n d m_X12_areGusts 35 [(0, .ref 100), (1, .int a), (2, .int b), (3, .int i)] [.int (Int32.ofInt 0)] S R _
    exact u_retb rfl rfl ⟨_, rfl, rfl, by rw [f_X12_areGusts, if_pos h1], rfl⟩
  · show u_P L xs n d m_X12_areGusts 4 [(0, .ref 100), (1, .int a), (2, .int b), (3, .int i)] [] S R _
    refine u_st rfl (fun _ => rfl) ?_
    refine u_st rfl (fun _ => rfl) ?_
    show u_P L xs n d m_X12_areGusts 6 [(0, .ref 100), (1, .int a), (2, .int b), (3, .int i)] [.ref 100, .int a] S R _
    refine u_cv (rest := [.int a]) rfl (by decide) mt_X12_toldGusts v_tyM rfl rfl rfl (Nat.le_of_ble_eq_true rfl) (Nat.le_of_ble_eq_true rfl) (Nat.le_of_ble_eq_true rfl) (fun d' => c_X12_toldGusts L xs n d' S R) ?_
    rintro _ _ _ ⟨_, rfl, rfl, rfl, rfl⟩
    refine u_st rfl (fun _ => rfl) ?_
    refine u_st rfl (fun _ => rfl) ?_
    refine u_st rfl (fun _ => rfl) ?_
    show u_P L xs n d m_X12_areGusts 12 [(0, .ref 100), (1, .int a), (2, .int b), (3, .int i)] [.int (a &&& ((f_X12_toldGusts S) ^^^ (Int32.ofInt (-1))))] S R _
    refine u_if_ne rfl (fun h2 => ?_) (fun h2 => ?_)
    · show u_P L xs n d m_X12_areGusts 34 [(0, .ref 100), (1, .int a), (2, .int b), (3, .int i)] [] S R _
      refine u_st rfl (fun _ => rfl) ?_
      show u_P L xs n d m_X12_areGusts 35 [(0, .ref 100), (1, .int a), (2, .int b), (3, .int i)] [.int (Int32.ofInt 0)] S R _
      exact u_retb rfl rfl ⟨_, rfl, rfl, by rw [f_X12_areGusts, if_neg h1, if_pos h2], rfl⟩
    · show u_P L xs n d m_X12_areGusts 15 [(0, .ref 100), (1, .int a), (2, .int b), (3, .int i)] [] S R _
      refine u_st rfl (fun _ => rfl) ?_
      show u_P L xs n d m_X12_areGusts 16 [(0, .ref 100), (1, .int a), (2, .int b), (3, .int i)] [.int a] S R _
      refine u_cs (ac := [.int a]) (rest := []) rfl (by decide) mt_X12_sizeOf (fun _ => rfl) (Nat.le_of_ble_eq_true rfl) (Nat.le_of_ble_eq_true rfl) (fun d' => c_X12_sizeOf L xs n d' a S R) ?_
      rintro _ _ _ ⟨_, rfl, rfl, rfl, rfl⟩
      refine u_st rfl (fun _ => rfl) ?_
      refine u_st rfl (fun _ => rfl) ?_
      refine u_st rfl (fun _ => rfl) ?_
      refine u_st rfl (fun _ => rfl) ?_
      refine u_st rfl (fun _ => rfl) ?_
      show u_P L xs n d m_X12_areGusts 24 [(0, .ref 100), (1, .int a), (2, .int b), (3, .int i)] [.long i.toInt64, .long b.toInt64, .long ((f_X12_sizeOf a).toInt64)] S R _
      refine u_cs (ac := [.long ((f_X12_sizeOf a).toInt64), .long b.toInt64, .long i.toInt64]) (rest := []) rfl (by decide) mt_X12_lies (fun _ => rfl) (Nat.le_of_ble_eq_true rfl) (Nat.le_of_ble_eq_true rfl) (fun d' => z_liesC L xs n d' ((f_X12_sizeOf a)) b.toInt64 i.toInt64 (lo := b.toInt) (hi := i.toInt) (q_i2l _) (q_i2l _) S R) ?_
      rintro _ _ _ ⟨_, rfl, rfl, rfl, rfl⟩
      show u_P L xs n d m_X12_areGusts 27 [(0, .ref 100), (1, .int a), (2, .int b), (3, .int i)] [.int (z_in ((f_X12_sizeOf a)) b.toInt i.toInt)] S R _
      refine u_if_eq rfl (fun h3 => ?_) (fun h3 => ?_)
      · show u_P L xs n d m_X12_areGusts 34 [(0, .ref 100), (1, .int a), (2, .int b), (3, .int i)] [] S R _
        refine u_st rfl (fun _ => rfl) ?_
        show u_P L xs n d m_X12_areGusts 35 [(0, .ref 100), (1, .int a), (2, .int b), (3, .int i)] [.int (Int32.ofInt 0)] S R _
        exact u_retb rfl rfl ⟨_, rfl, rfl, by rw [f_X12_areGusts, if_neg h1, if_neg h2, if_pos h3], rfl⟩
      · show u_P L xs n d m_X12_areGusts 30 [(0, .ref 100), (1, .int a), (2, .int b), (3, .int i)] [] S R _
        refine u_st rfl (fun _ => rfl) ?_
        refine u_st rfl (fun _ => rfl) ?_
        show u_P L xs n d m_X12_areGusts 35 [(0, .ref 100), (1, .int a), (2, .int b), (3, .int i)] [.int (Int32.ofInt 1)] S R _
        exact u_retb rfl rfl ⟨_, rfl, rfl, by rw [f_X12_areGusts, if_neg h1, if_neg h2, if_neg h3], rfl⟩
end PrtS42m
section PrtS42n_w1
noncomputable abbrev m_X11_placeIn : g_M := (g_cn 11, yX11_placeIn, cX11_placeIn, 2, (some .int), g_look2 ttX11_placeIn)
set_option maxRecDepth 20000 in
theorem mt_X11_placeIn : g_mt 149 = some m_X11_placeIn := rfl
noncomputable def f_X11_placeIn (a : Int32) (b : Int32) : Int32 := (if b < 0 then Int32.ofInt 0 else (if (Int32.ofInt 31) ≤ b then Int32.ofInt 0 else f_J6_bitCount_0f7a4 (a &&& (((Int32.ofInt 1) <<< (b &&& 31)) - (Int32.ofInt 1)))))
set_option maxRecDepth 4000 in
theorem c_X11_placeIn (L : Nat) (xs : Nat → Int32) (n d : Nat) (a : Int32) (b : Int32) (S : v_Sf) (R : v_Rf) : u_P L xs n d m_X11_placeIn 0 (lv_args 0 [.int a, .int b]) [] S R (z_Q R (fun v S1 => f_X11_placeIn a b = v ∧ S = S1)) := by
  show u_P L xs n d m_X11_placeIn 0 [(0, .int a), (1, .int b)] [] S R _
  refine u_st rfl (fun _ => rfl) ?_
  show u_P L xs n d m_X11_placeIn 1 [(0, .int a), (1, .int b)] [.int b] S R _
  refine u_if_lt rfl (fun h1 => ?_) (fun h1 => ?_)
  · show u_P L xs n d m_X11_placeIn 23 [(0, .int a), (1, .int b)] [] S R _
    refine u_st rfl (fun _ => rfl) ?_
    show u_P L xs n d m_X11_placeIn 24 [(0, .int a), (1, .int b)] [.int (Int32.ofInt 0)] S R _
    exact u_ret rfl rfl ⟨_, rfl, rfl, by rw [f_X11_placeIn, if_pos h1], rfl⟩
  · show u_P L xs n d m_X11_placeIn 4 [(0, .int a), (1, .int b)] [] S R _
    refine u_st rfl (fun _ => rfl) ?_
    refine u_st rfl (fun _ => rfl) ?_
    show u_P L xs n d m_X11_placeIn 7 [(0, .int a), (1, .int b)] [.int (Int32.ofInt 31), .int b] S R _
    refine u_ic_ge rfl (fun h2 => ?_) (fun h2 => ?_)
    · show u_P L xs n d m_X11_placeIn 23 [(0, .int a), (1, .int b)] [] S R _
      refine u_st rfl (fun _ => rfl) ?_
      show u_P L xs n d m_X11_placeIn 24 [(0, .int a), (1, .int b)] [.int (Int32.ofInt 0)] S R _
      exact u_ret rfl rfl ⟨_, rfl, rfl, by rw [f_X11_placeIn, if_neg h1, if_pos h2], rfl⟩
    · show u_P L xs n d m_X11_placeIn 10 [(0, .int a), (1, .int b)] [] S R _
      refine u_st rfl (fun _ => rfl) ?_
      refine u_st rfl (fun _ => rfl) ?_
      refine u_st rfl (fun _ => rfl) ?_
      refine u_st rfl (fun _ => rfl) ?_
      refine u_st rfl (fun _ => rfl) ?_
      refine u_st rfl (fun _ => rfl) ?_
      refine u_st rfl (fun _ => rfl) ?_
      show u_P L xs n d m_X11_placeIn 17 [(0, .int a), (1, .int b)] [.int (a &&& (((Int32.ofInt 1) <<< (b &&& 31)) - (Int32.ofInt 1)))] S R _
      refine u_cs (ac := [.int (a &&& (((Int32.ofInt 1) <<< (b &&& 31)) - (Int32.ofInt 1)))]) (rest := []) rfl (by decide) mt_J6_bitCount_0f7a4 (fun _ => rfl) (Nat.le_of_ble_eq_true rfl) (Nat.le_of_ble_eq_true rfl) (fun d' => c_J6_bitCount_0f7a4 L xs n d' (a &&& (((Int32.ofInt 1) <<< (b &&& 31)) - (Int32.ofInt 1))) S R) ?_
      rintro _ _ _ ⟨_, rfl, rfl, rfl, rfl⟩
      refine u_st rfl (fun _ => rfl) ?_
      show u_P L xs n d m_X11_placeIn 24 [(0, .int a), (1, .int b)] [.int (f_J6_bitCount_0f7a4 (a &&& (((Int32.ofInt 1) <<< (b &&& 31)) - (Int32.ofInt 1))))] S R _
      exact u_ret rfl rfl ⟨_, rfl, rfl, by rw [f_X11_placeIn, if_neg h1, if_neg h2], rfl⟩
noncomputable abbrev m_X4_spread : g_M := (g_cn 4, yX4_spread, cX4_spread, 4, (some .int), g_look2 ttX4_spread)
set_option maxRecDepth 20000 in
theorem mt_X4_spread : g_mt 51 = some m_X4_spread := rfl
noncomputable def D_spread90_4  (H4 : Int32 → Int32 → Int32 → v_Sf → Prop) (K : Int32 → v_Sf → Prop) (x0 : Int32) (x2 : Int32) (x3 : Int32) (S : v_Sf) : Prop := (((Int32.ofInt 12) ≤ x3 → K x2 S) ∧ (¬ ((Int32.ofInt 12) ≤ x3) → (((Int32.ofNat 6) ≤ x2 → K x2 S) ∧ (¬ ((Int32.ofNat 6) ≤ x2) → (((f_X11_isIn x0 x3) = 0 → H4 x0 x2 (x3 + (Int32.ofInt 1)) S) ∧ (¬ ((f_X11_isIn x0 x3) = 0) → (0 ≤ x2.toInt → x2.toInt < 6 → H4 x0 (x2 + (Int32.ofInt 1)) (x3 + (Int32.ofInt 1)) (z_s S 90 x2.toInt.toNat x3))))))))
noncomputable def D_spread90 (a : Int32) (H4 : Int32 → Int32 → Int32 → v_Sf → Prop) (K : Int32 → v_Sf → Prop) (S : v_Sf) : Prop := H4 a (Int32.ofInt 0) (Int32.ofInt 0) S
set_option maxRecDepth 4000 in
theorem hd_spread90 (L : Nat) (xs : Nat → Int32) {R : v_Rf} (a : Int32) (H4 : Int32 → Int32 → Int32 → v_Sf → Prop) (K : Int32 → v_Sf → Prop) (k4 : ∀ (x0 : Int32) (x2 : Int32) (x3 : Int32) (S : v_Sf), H4 x0 x2 x3 S → D_spread90_4 H4 K x0 x2 x3 S) : ∀ n, (∀ (d : Nat) (x0 : Int32) (x2 : Int32) (x3 : Int32) (S : v_Sf), H4 x0 x2 x3 S → u_P L xs n d m_X4_spread 4 [(0, .int x0), (1, .ref 91), (2, .int x2), (3, .int x3)] [] S R (z_Q R K)) := by
  intro n
  induction n using Nat.strongRecOn with
  | ind n ih =>
    intro d x0 x2 x3 S hD
    have hD := k4 x0 x2 x3 S hD
    unfold D_spread90_4 at hD
    show u_P L xs n d m_X4_spread 4 [(0, .int x0), (1, .ref 91), (2, .int x2), (3, .int x3)] [] S R _
    refine u_st1 rfl (fun _ => rfl) (fun m hm => ?_)
    refine u_st rfl (fun _ => rfl) ?_
    show u_P L xs m d m_X4_spread 7 [(0, .int x0), (1, .ref 91), (2, .int x2), (3, .int x3)] [.int (Int32.ofInt 12), .int x3] S R _
    refine u_ic_ge rfl (fun h1 => ?_) (fun h1 => ?_)
    · have hD := hD.1 h1
      show u_P L xs m d m_X4_spread 37 [(0, .int x0), (1, .ref 91), (2, .int x2), (3, .int x3)] [] S R _
      refine u_st rfl (fun _ => rfl) ?_
      show u_P L xs m d m_X4_spread 38 [(0, .int x0), (1, .ref 91), (2, .int x2), (3, .int x3)] [.int x2] S R _
      exact u_ret rfl rfl ⟨_, rfl, rfl, hD⟩
    · have hD := hD.2 h1
      show u_P L xs m d m_X4_spread 10 [(0, .int x0), (1, .ref 91), (2, .int x2), (3, .int x3)] [] S R _
      refine u_st rfl (fun _ => rfl) ?_
      refine u_st rfl (fun _ => rfl) ?_
      show u_P L xs m d m_X4_spread 12 [(0, .int x0), (1, .ref 91), (2, .int x2), (3, .int x3)] [.ref 91, .int x2] S R _
      refine u_al rfl rfl rfl ?_
      show u_P L xs m d m_X4_spread 13 [(0, .int x0), (1, .ref 91), (2, .int x2), (3, .int x3)] [.int (Int32.ofNat 6), .int x2] S R _
      refine u_ic_ge rfl (fun h2 => ?_) (fun h2 => ?_)
      · have hD := hD.1 h2
        show u_P L xs m d m_X4_spread 37 [(0, .int x0), (1, .ref 91), (2, .int x2), (3, .int x3)] [] S R _
        refine u_st rfl (fun _ => rfl) ?_
        show u_P L xs m d m_X4_spread 38 [(0, .int x0), (1, .ref 91), (2, .int x2), (3, .int x3)] [.int x2] S R _
        exact u_ret rfl rfl ⟨_, rfl, rfl, hD⟩
      · have hD := hD.2 h2
        show u_P L xs m d m_X4_spread 16 [(0, .int x0), (1, .ref 91), (2, .int x2), (3, .int x3)] [] S R _
        refine u_st rfl (fun _ => rfl) ?_
        refine u_st rfl (fun _ => rfl) ?_
        show u_P L xs m d m_X4_spread 18 [(0, .int x0), (1, .ref 91), (2, .int x2), (3, .int x3)] [.int x3, .int x0] S R _
        refine u_cs (ac := [.int x0, .int x3]) (rest := []) rfl (by decide) mt_X11_isIn (fun _ => rfl) (Nat.le_of_ble_eq_true rfl) (Nat.le_of_ble_eq_true rfl) (fun d' => c_X11_isIn L xs m d' x0 x3 S R) ?_
        rintro _ _ _ ⟨_, rfl, rfl, rfl, rfl⟩
        show u_P L xs m d m_X4_spread 21 [(0, .int x0), (1, .ref 91), (2, .int x2), (3, .int x3)] [.int (f_X11_isIn x0 x3)] S R _
        refine u_if_eq rfl (fun h3 => ?_) (fun h3 => ?_)
        · have hD := hD.1 h3
          show u_P L xs m d m_X4_spread 31 [(0, .int x0), (1, .ref 91), (2, .int x2), (3, .int x3)] [] S R _
          refine u_st rfl (fun _ => rfl) ?_
          refine u_st rfl (fun _ => rfl) ?_
          refine u_lc (b := [(0, .int x0), (1, .ref 91), (2, .int x2), (3, .int (x3 + (Int32.ofInt 1)))]) (show ([3, 0, 1, 2] : List Nat).Nodup by decide) (show ([0, 1, 2, 3] : List Nat).Nodup by decide) (fun i => match i with | 0 => rfl | 1 => rfl | 2 => rfl | 3 => rfl | _ + 4 => rfl) ?_
          exact (ih m hm) d x0 x2 (x3 + (Int32.ofInt 1)) S hD
        · have hD := hD.2 h3
          show u_P L xs m d m_X4_spread 24 [(0, .int x0), (1, .ref 91), (2, .int x2), (3, .int x3)] [] S R _
          refine u_st rfl (fun _ => rfl) ?_
          refine u_st rfl (fun _ => rfl) ?_
          refine u_st rfl (fun _ => rfl) ?_
          show u_P L xs m d m_X4_spread 27 [(0, .int x0), (1, .ref 91), (2, .int x2), (3, .int x3)] [.int x3, .int x2, .ref 91] S R _
          refine u_iast rfl rfl (fun b41 b42 => ?_)
          have hD := hD b41 b42
          show u_P L xs m d m_X4_spread 28 [(0, .int x0), (1, .ref 91), (2, .int x2), (3, .int x3)] [] (z_s S 90 x2.toInt.toNat x3) R _
          refine u_st rfl (fun _ => rfl) ?_
          refine u_st rfl (fun _ => rfl) ?_
          refine u_st rfl (fun _ => rfl) ?_
          refine u_lc (b := [(0, .int x0), (1, .ref 91), (2, .int (x2 + (Int32.ofInt 1))), (3, .int (x3 + (Int32.ofInt 1)))]) (show ([3, 2, 0, 1] : List Nat).Nodup by decide) (show ([0, 1, 2, 3] : List Nat).Nodup by decide) (fun i => match i with | 0 => rfl | 1 => rfl | 2 => rfl | 3 => rfl | _ + 4 => rfl) ?_
          exact (ih m hm) d x0 (x2 + (Int32.ofInt 1)) (x3 + (Int32.ofInt 1)) (z_s S 90 x2.toInt.toNat x3) hD
set_option maxRecDepth 4000 in
theorem w_spread90 (L : Nat) (xs : Nat → Int32) {R : v_Rf} (a : Int32) (H4 : Int32 → Int32 → Int32 → v_Sf → Prop) (K : Int32 → v_Sf → Prop) (k4 : ∀ (x0 : Int32) (x2 : Int32) (x3 : Int32) (S : v_Sf), H4 x0 x2 x3 S → D_spread90_4 H4 K x0 x2 x3 S) (n d : Nat) (S : v_Sf) (hD : D_spread90 a H4 K S) : u_P L xs n d m_X4_spread 0 (lv_args 0 [.int a, .ref 91]) [] S R (z_Q R K) := by
  unfold D_spread90 at hD
  show u_P L xs n d m_X4_spread 0 [(0, .int a), (1, .ref 91)] [] S R _
  refine u_st rfl (fun _ => rfl) ?_
  refine u_st rfl (fun _ => rfl) ?_
  refine u_st rfl (fun _ => rfl) ?_
  refine u_st rfl (fun _ => rfl) ?_
  refine u_lc (b := [(0, .int a), (1, .ref 91), (2, .int (Int32.ofInt 0)), (3, .int (Int32.ofInt 0))]) (show ([3, 2, 0, 1] : List Nat).Nodup by decide) (show ([0, 1, 2, 3] : List Nat).Nodup by decide) (fun i => match i with | 0 => rfl | 1 => rfl | 2 => rfl | 3 => rfl | _ + 4 => rfl) ?_
  exact (hd_spread90 L xs a H4 K k4 n) d a (Int32.ofInt 0) (Int32.ofInt 0) S hD
noncomputable def r_spread90_4 (x0 : Int32) : Nat → Nat → Int32 → v_Sf → Int32 × v_Sf
  | 0, k4, x2, S => (x2, S)
  | r + 1, k4, x2, S => (if (Int32.ofNat 6) ≤ x2 then (x2, S) else (if (f_X11_isIn x0 (z_i k4)) = 0 then r_spread90_4 x0 r (k4 + 1) x2 S else r_spread90_4 x0 r (k4 + 1) (x2 + (Int32.ofInt 1)) (z_s S 90 x2.toInt.toNat (z_i k4))))
noncomputable def F_spread90 (a : Int32) (S : v_Sf) : Int32 × v_Sf := r_spread90_4 a (12 - 0) 0 (Int32.ofInt 0) S
noncomputable def f_spread90 (a : Int32) (S : v_Sf) : Int32 := (F_spread90 a S).1
noncomputable def g_spread90 (a : Int32) (S : v_Sf) : v_Sf := (F_spread90 a S).2
theorem c_spread90 (L : Nat) (xs : Nat → Int32) (n d : Nat) (a : Int32) (S : v_Sf) (R : v_Rf) : u_P L xs n d m_X4_spread 0 (lv_args 0 [.int a, .ref 91]) [] S R (z_Q R (fun v S1 => f_spread90 a S = v ∧ g_spread90 a S = S1)) := by
  refine w_spread90 L xs a (fun y0 y2 y3 T => ∃ (k4 : Nat), k4 ≤ 12 ∧ z_i k4 = y3 ∧ a = y0 ∧ r_spread90_4 a (12 - k4) k4 y2 T = F_spread90 a S) (fun v S1 => f_spread90 a S = v ∧ g_spread90 a S = S1) ?_ n d S ?_
  · rintro _ x2 _ S1 ⟨k4, hkk, rfl, rfl, e⟩
    unfold D_spread90_4
    rcases Nat.lt_or_ge k4 (12) with hk | hk
    · rw [show 12 - k4 = (12 - (k4 + 1)) + 1 by omega, r_spread90_4] at e
      refine ⟨fun q1 => ?_, fun q1 => ?_⟩
      · exact absurd hk (Nat.not_lt.mpr (z_leB2 (B := 12) q1 (by decide) (by omega)))
      · refine ⟨fun q2 => ?_, fun q2 => ?_⟩
        · rw [if_pos q2] at e
          have e1 := congrArg Prod.fst e.symm
          have e2 := congrArg Prod.snd e.symm
          exact ⟨e1, e2⟩
        · refine ⟨fun q3 => ?_, fun q3 => ?_⟩
          · rw [if_neg q2, if_pos q3] at e
            exact ⟨(k4 + 1), by omega, (z_i1 k4).symm, rfl, e⟩
          · intro _ _
            rw [if_neg q2, if_neg q3] at e
            exact ⟨(k4 + 1), by omega, (z_i1 k4).symm, rfl, e⟩
    · rw [show 12 - k4 = 0 by omega, r_spread90_4] at e
      refine ⟨fun q4 => ?_, fun q4 => ?_⟩
      · have e1 := congrArg Prod.fst e.symm
        have e2 := congrArg Prod.snd e.symm
        exact ⟨e1, e2⟩
      · exact absurd hk (Nat.not_le.mpr (z_ltB2 (B := 12) q4 (by decide) (by omega)))
  · unfold D_spread90
    have e : r_spread90_4 a (12 - 0) 0 (Int32.ofInt 0) S = F_spread90 a S := by rw [F_spread90]
    exact ⟨0, by omega, rfl, rfl, e⟩
noncomputable def D_fill89_5  (H5 : Int32 → Int32 → Int32 → v_Sf → Prop) (K : v_Sf → Prop) (x1 : Int32) (x2 : Int32) (x3 : Int32) (S : v_Sf) : Prop := ((x3 ≤ x2 → K S) ∧ (¬ (x3 ≤ x2) → (0 ≤ x2.toInt → x2.toInt < 4 → H5 x1 (x2 + (Int32.ofInt 1)) x3 (z_s S 89 x2.toInt.toNat x1))))
noncomputable def D_fill89 (v : Int32) (H5 : Int32 → Int32 → Int32 → v_Sf → Prop) (K : v_Sf → Prop) (S : v_Sf) : Prop := H5 v (Int32.ofInt 0) (Int32.ofNat 4) S
set_option maxRecDepth 4000 in
theorem hd_fill89 (L : Nat) (xs : Nat → Int32) {R : v_Rf} (v : Int32) (H5 : Int32 → Int32 → Int32 → v_Sf → Prop) (K : v_Sf → Prop) (k5 : ∀ (x1 : Int32) (x2 : Int32) (x3 : Int32) (S : v_Sf), H5 x1 x2 x3 S → D_fill89_5 H5 K x1 x2 x3 S) : ∀ n, (∀ (d : Nat) (x1 : Int32) (x2 : Int32) (x3 : Int32) (S : v_Sf), H5 x1 x2 x3 S → u_P L xs n d m_J7_fill_53178 5 [(0, .ref 90), (1, .int x1), (2, .int x2), (3, .int x3)] [] S R (z_V R K)) := by
  intro n
  induction n using Nat.strongRecOn with
  | ind n ih =>
    intro d x1 x2 x3 S hD
    have hD := k5 x1 x2 x3 S hD
    unfold D_fill89_5 at hD
    show u_P L xs n d m_J7_fill_53178 5 [(0, .ref 90), (1, .int x1), (2, .int x2), (3, .int x3)] [] S R _
    refine u_st1 rfl (fun _ => rfl) (fun m hm => ?_)
    refine u_st rfl (fun _ => rfl) ?_
    show u_P L xs m d m_J7_fill_53178 7 [(0, .ref 90), (1, .int x1), (2, .int x2), (3, .int x3)] [.int x3, .int x2] S R _
    refine u_ic_ge rfl (fun h1 => ?_) (fun h1 => ?_)
    · have hD := hD.1 h1
      show u_P L xs m d m_J7_fill_53178 20 [(0, .ref 90), (1, .int x1), (2, .int x2), (3, .int x3)] [] S R _
      exact u_ret rfl rfl ⟨rfl, rfl, hD⟩
    · have hD := hD.2 h1
      show u_P L xs m d m_J7_fill_53178 10 [(0, .ref 90), (1, .int x1), (2, .int x2), (3, .int x3)] [] S R _
      refine u_st rfl (fun _ => rfl) ?_
      refine u_st rfl (fun _ => rfl) ?_
      refine u_st rfl (fun _ => rfl) ?_
      show u_P L xs m d m_J7_fill_53178 13 [(0, .ref 90), (1, .int x1), (2, .int x2), (3, .int x3)] [.int x1, .int x2, .ref 90] S R _
      refine u_iast rfl rfl (fun b21 b22 => ?_)
      have hD := hD b21 b22
      show u_P L xs m d m_J7_fill_53178 14 [(0, .ref 90), (1, .int x1), (2, .int x2), (3, .int x3)] [] (z_s S 89 x2.toInt.toNat x1) R _
      refine u_st rfl (fun _ => rfl) ?_
      refine u_st rfl (fun _ => rfl) ?_
      refine u_lc (b := [(0, .ref 90), (1, .int x1), (2, .int (x2 + (Int32.ofInt 1))), (3, .int x3)]) (show ([2, 0, 1, 3] : List Nat).Nodup by decide) (show ([0, 1, 2, 3] : List Nat).Nodup by decide) (fun i => match i with | 0 => rfl | 1 => rfl | 2 => rfl | 3 => rfl | _ + 4 => rfl) ?_
      exact (ih m hm) d x1 (x2 + (Int32.ofInt 1)) x3 (z_s S 89 x2.toInt.toNat x1) hD
set_option maxRecDepth 4000 in
theorem w_fill89 (L : Nat) (xs : Nat → Int32) {R : v_Rf} (v : Int32) (H5 : Int32 → Int32 → Int32 → v_Sf → Prop) (K : v_Sf → Prop) (k5 : ∀ (x1 : Int32) (x2 : Int32) (x3 : Int32) (S : v_Sf), H5 x1 x2 x3 S → D_fill89_5 H5 K x1 x2 x3 S) (n d : Nat) (S : v_Sf) (hD : D_fill89 v H5 K S) : u_P L xs n d m_J7_fill_53178 0 (lv_args 0 [.ref 90, .int v]) [] S R (z_V R K) := by
  unfold D_fill89 at hD
  show u_P L xs n d m_J7_fill_53178 0 [(0, .ref 90), (1, .int v)] [] S R _
  refine u_st rfl (fun _ => rfl) ?_
  refine u_st rfl (fun _ => rfl) ?_
  refine u_st rfl (fun _ => rfl) ?_
  show u_P L xs n d m_J7_fill_53178 3 [(2, .int (Int32.ofInt 0)), (0, .ref 90), (1, .int v)] [.ref 90] S R _
  refine u_al rfl rfl rfl ?_
  refine u_st rfl (fun _ => rfl) ?_
  refine u_lc (b := [(0, .ref 90), (1, .int v), (2, .int (Int32.ofInt 0)), (3, .int (Int32.ofNat 4))]) (show ([3, 2, 0, 1] : List Nat).Nodup by decide) (show ([0, 1, 2, 3] : List Nat).Nodup by decide) (fun i => match i with | 0 => rfl | 1 => rfl | 2 => rfl | 3 => rfl | _ + 4 => rfl) ?_
  exact (hd_fill89 L xs v H5 K k5 n) d v (Int32.ofInt 0) (Int32.ofNat 4) S hD
noncomputable def r_fill89_5 (x1 : Int32) (x3 : Int32) : Nat → Nat → v_Sf → v_Sf
  | 0, k5, S => S
  | r + 1, k5, S => r_fill89_5 x1 x3 r (k5 + 1) (z_s S 89 (z_i k5).toInt.toNat x1)
noncomputable def F_fill89 (v : Int32) (S : v_Sf) : v_Sf := r_fill89_5 v (Int32.ofNat 4) (((Int32.ofNat 4)).toInt.toNat - 0) 0 S
noncomputable def g_fill89 (v : Int32) (S : v_Sf) : v_Sf := F_fill89 v S
theorem c_fill89 (L : Nat) (xs : Nat → Int32) (n d : Nat) (v : Int32) (S : v_Sf) (R : v_Rf) : u_P L xs n d m_J7_fill_53178 0 (lv_args 0 [.ref 90, .int v]) [] S R (z_V R (fun S1 => g_fill89 v S = S1)) := by
  refine w_fill89 L xs v (fun y1 y2 y3 T => ∃ (k5 : Nat), k5 ≤ ((Int32.ofNat 4)).toInt.toNat ∧ z_i k5 = y2 ∧ v = y1 ∧ Int32.ofNat 4 = y3 ∧ r_fill89_5 v (Int32.ofNat 4) (((Int32.ofNat 4)).toInt.toNat - k5) k5 T = F_fill89 v S) (fun S1 => g_fill89 v S = S1) ?_ n d S ?_
  · rintro _ _ _ S1 ⟨k5, hkk, rfl, rfl, rfl, e⟩
    unfold D_fill89_5
    rcases Nat.lt_or_ge k5 (((Int32.ofNat 4)).toInt.toNat) with hk | hk
    · rw [show ((Int32.ofNat 4)).toInt.toNat - k5 = (((Int32.ofNat 4)).toInt.toNat - (k5 + 1)) + 1 by omega, r_fill89_5] at e
      refine ⟨fun q1 => ?_, fun q1 => ?_⟩
      · exact absurd hk (Nat.not_lt.mpr (z_leV q1 (by omega)))
      · intro _ _
        exact ⟨(k5 + 1), by omega, (z_i1 k5).symm, rfl, rfl, e⟩
    · rw [show ((Int32.ofNat 4)).toInt.toNat - k5 = 0 by omega, r_fill89_5] at e
      refine ⟨fun q2 => ?_, fun q2 => ?_⟩
      · exact e.symm
      · exact absurd hk (Nat.not_le.mpr (z_ltV q2 (by omega)))
  · unfold D_fill89
    have e : r_fill89_5 v (Int32.ofNat 4) (((Int32.ofNat 4)).toInt.toNat - 0) 0 S = F_fill89 v S := by rw [F_fill89]
    exact ⟨0, by omega, rfl, rfl, rfl, e⟩
noncomputable abbrev m_X10_windOfGale : g_M := (g_cn 10, yX10_windOfGale, cX10_windOfGale, 4, (some .int), g_look2 ttX10_windOfGale)
set_option maxRecDepth 20000 in
theorem mt_X10_windOfGale : g_mt 108 = some m_X10_windOfGale := rfl
noncomputable def D_X10_windOfGale_2  (H2 : Int32 → Int32 → v_Sf → Prop) (K : Int32 → v_Sf → Prop) (x2 : Int32) (x3 : Int32) (S : v_Sf) : Prop := ((x2 ≤ x3 → K (Int32.ofInt (-1)) S) ∧ (¬ (x2 ≤ x3) → (((Int32.ofInt 6) ≤ x2 → K (Int32.ofInt (-1)) S) ∧ (¬ ((Int32.ofInt 6) ≤ x2) → (0 ≤ x3.toInt → x3.toInt < 6 → (0 ≤ (S 90 x3.toInt.toNat).toInt → (S 90 x3.toInt.toNat).toInt < 12 → (0 ≤ x2.toInt → x2.toInt < 6 → (0 ≤ (S 90 x2.toInt.toNat).toInt → (S 90 x2.toInt.toNat).toInt < 12 → (((¬ (S 6 ((S 90 x3.toInt.toNat).toInt.toNat)) = (S 6 ((S 90 x2.toInt.toNat).toInt.toNat))) → H2 x2 (x3 + (Int32.ofInt 1)) S) ∧ (¬ (¬ (S 6 ((S 90 x3.toInt.toNat).toInt.toNat)) = (S 6 ((S 90 x2.toInt.toNat).toInt.toNat))) → (0 ≤ x3.toInt → x3.toInt < 6 → K (S 92 x3.toInt.toNat) S)))))))))))
noncomputable def D_X10_windOfGale (i : Int32) (H2 : Int32 → Int32 → v_Sf → Prop) (K : Int32 → v_Sf → Prop) (S : v_Sf) : Prop := H2 i (Int32.ofInt 0) S
set_option maxRecDepth 4000 in
theorem hd_X10_windOfGale (L : Nat) (xs : Nat → Int32) {R : v_Rf} (i : Int32) (H2 : Int32 → Int32 → v_Sf → Prop) (K : Int32 → v_Sf → Prop) (k2 : ∀ (x2 : Int32) (x3 : Int32) (S : v_Sf), H2 x2 x3 S → D_X10_windOfGale_2 H2 K x2 x3 S) : ∀ n, (∀ (d : Nat) (x2 : Int32) (x3 : Int32) (S : v_Sf), H2 x2 x3 S → u_P L xs n d m_X10_windOfGale 2 [(0, .ref 87), (1, .ref 2), (2, .int x2), (3, .int x3)] [] S R (z_Q R K)) := by
  intro n
  induction n using Nat.strongRecOn with
  | ind n ih =>
    intro d x2 x3 S hD
    have hD := k2 x2 x3 S hD
    unfold D_X10_windOfGale_2 at hD
    show u_P L xs n d m_X10_windOfGale 2 [(0, .ref 87), (1, .ref 2), (2, .int x2), (3, .int x3)] [] S R _
    refine u_st1 rfl (fun _ => rfl) (fun m hm => ?_)
    refine u_st rfl (fun _ => rfl) ?_
    show u_P L xs m d m_X10_windOfGale 4 [(0, .ref 87), (1, .ref 2), (2, .int x2), (3, .int x3)] [.int x2, .int x3] S R _
    refine u_ic_ge rfl (fun h1 => ?_) (fun h1 => ?_)
    · have hD := hD.1 h1
      show u_P L xs m d m_X10_windOfGale 51 [(0, .ref 87), (1, .ref 2), (2, .int x2), (3, .int x3)] [] S R _
      refine u_st rfl (fun _ => rfl) ?_
      show u_P L xs m d m_X10_windOfGale 52 [(0, .ref 87), (1, .ref 2), (2, .int x2), (3, .int x3)] [.int (Int32.ofInt (-1))] S R _
      exact u_ret rfl rfl ⟨_, rfl, rfl, hD⟩
    · have hD := hD.2 h1
      show u_P L xs m d m_X10_windOfGale 7 [(0, .ref 87), (1, .ref 2), (2, .int x2), (3, .int x3)] [] S R _
      refine u_st rfl (fun _ => rfl) ?_
      refine u_st rfl (fun _ => rfl) ?_
      show u_P L xs m d m_X10_windOfGale 10 [(0, .ref 87), (1, .ref 2), (2, .int x2), (3, .int x3)] [.int (Int32.ofInt 6), .int x2] S R _
      refine u_ic_ge rfl (fun h2 => ?_) (fun h2 => ?_)
      · have hD := hD.1 h2
        show u_P L xs m d m_X10_windOfGale 51 [(0, .ref 87), (1, .ref 2), (2, .int x2), (3, .int x3)] [] S R _
        refine u_st rfl (fun _ => rfl) ?_
        show u_P L xs m d m_X10_windOfGale 52 [(0, .ref 87), (1, .ref 2), (2, .int x2), (3, .int x3)] [.int (Int32.ofInt (-1))] S R _
        exact u_ret rfl rfl ⟨_, rfl, rfl, hD⟩
      · have hD := hD.2 h2
        show u_P L xs m d m_X10_windOfGale 13 [(0, .ref 87), (1, .ref 2), (2, .int x2), (3, .int x3)] [] S R _
        refine u_st rfl (fun _ => rfl) ?_
        show u_P L xs m d m_X10_windOfGale 14 [(0, .ref 87), (1, .ref 2), (2, .int x2), (3, .int x3)] [.ref 2] S R _
        refine u_getr rfl rfl rfl ?_
        refine u_st rfl (fun _ => rfl) ?_
        show u_P L xs m d m_X10_windOfGale 18 [(0, .ref 87), (1, .ref 2), (2, .int x2), (3, .int x3)] [.ref 87, .ref 7] S R _
        refine u_getr rfl rfl rfl ?_
        refine u_st rfl (fun _ => rfl) ?_
        show u_P L xs m d m_X10_windOfGale 22 [(0, .ref 87), (1, .ref 2), (2, .int x2), (3, .int x3)] [.int x3, .ref 91, .ref 7] S R _
        refine u_ialdE (v := S 90 x3.toInt.toNat) rfl rfl rfl (fun b31 b32 => ?_)
        have hD := hD b31 b32
        show u_P L xs m d m_X10_windOfGale 23 [(0, .ref 87), (1, .ref 2), (2, .int x2), (3, .int x3)] [.int (S 90 x3.toInt.toNat), .ref 7] S R _
        refine u_ialdE (v := S 6 ((S 90 x3.toInt.toNat).toInt.toNat)) rfl rfl rfl (fun b41 b42 => ?_)
        have hD := hD b41 b42
        show u_P L xs m d m_X10_windOfGale 24 [(0, .ref 87), (1, .ref 2), (2, .int x2), (3, .int x3)] [.int (S 6 ((S 90 x3.toInt.toNat).toInt.toNat))] S R _
        refine u_st rfl (fun _ => rfl) ?_
        show u_P L xs m d m_X10_windOfGale 25 [(0, .ref 87), (1, .ref 2), (2, .int x2), (3, .int x3)] [.ref 2, .int (S 6 ((S 90 x3.toInt.toNat).toInt.toNat))] S R _
        refine u_getr rfl rfl rfl ?_
        refine u_st rfl (fun _ => rfl) ?_
        show u_P L xs m d m_X10_windOfGale 29 [(0, .ref 87), (1, .ref 2), (2, .int x2), (3, .int x3)] [.ref 87, .ref 7, .int (S 6 ((S 90 x3.toInt.toNat).toInt.toNat))] S R _
        refine u_getr rfl rfl rfl ?_
        refine u_st rfl (fun _ => rfl) ?_
        show u_P L xs m d m_X10_windOfGale 33 [(0, .ref 87), (1, .ref 2), (2, .int x2), (3, .int x3)] [.int x2, .ref 91, .ref 7, .int (S 6 ((S 90 x3.toInt.toNat).toInt.toNat))] S R _
        refine u_ialdE (v := S 90 x2.toInt.toNat) rfl rfl rfl (fun b51 b52 => ?_)
        have hD := hD b51 b52
        show u_P L xs m d m_X10_windOfGale 34 [(0, .ref 87), (1, .ref 2), (2, .int x2), (3, .int x3)] [.int (S 90 x2.toInt.toNat), .ref 7, .int (S 6 ((S 90 x3.toInt.toNat).toInt.toNat))] S R _
        refine u_ialdE (v := S 6 ((S 90 x2.toInt.toNat).toInt.toNat)) rfl rfl rfl (fun b61 b62 => ?_)
        have hD := hD b61 b62
        show u_P L xs m d m_X10_windOfGale 35 [(0, .ref 87), (1, .ref 2), (2, .int x2), (3, .int x3)] [.int (S 6 ((S 90 x2.toInt.toNat).toInt.toNat)), .int (S 6 ((S 90 x3.toInt.toNat).toInt.toNat))] S R _
        refine u_ic_ne rfl (fun h7 => ?_) (fun h7 => ?_)
        · have hD := hD.1 h7
          show u_P L xs m d m_X10_windOfGale 45 [(0, .ref 87), (1, .ref 2), (2, .int x2), (3, .int x3)] [] S R _
          refine u_st rfl (fun _ => rfl) ?_
          refine u_st rfl (fun _ => rfl) ?_
          refine u_lc (b := [(0, .ref 87), (1, .ref 2), (2, .int x2), (3, .int (x3 + (Int32.ofInt 1)))]) (show ([3, 0, 1, 2] : List Nat).Nodup by decide) (show ([0, 1, 2, 3] : List Nat).Nodup by decide) (fun i => match i with | 0 => rfl | 1 => rfl | 2 => rfl | 3 => rfl | _ + 4 => rfl) ?_
          exact (ih m hm) d x2 (x3 + (Int32.ofInt 1)) S hD
        · have hD := hD.2 h7
          show u_P L xs m d m_X10_windOfGale 38 [(0, .ref 87), (1, .ref 2), (2, .int x2), (3, .int x3)] [] S R _
          refine u_st rfl (fun _ => rfl) ?_
          show u_P L xs m d m_X10_windOfGale 39 [(0, .ref 87), (1, .ref 2), (2, .int x2), (3, .int x3)] [.ref 87] S R _
          refine u_getr rfl rfl rfl ?_
          refine u_st rfl (fun _ => rfl) ?_
          show u_P L xs m d m_X10_windOfGale 43 [(0, .ref 87), (1, .ref 2), (2, .int x2), (3, .int x3)] [.int x3, .ref 93] S R _
          refine u_ialdE (v := S 92 x3.toInt.toNat) rfl rfl rfl (fun b81 b82 => ?_)
          have hD := hD b81 b82
          show u_P L xs m d m_X10_windOfGale 44 [(0, .ref 87), (1, .ref 2), (2, .int x2), (3, .int x3)] [.int (S 92 x3.toInt.toNat)] S R _
          exact u_ret rfl rfl ⟨_, rfl, rfl, hD⟩
set_option maxRecDepth 4000 in
theorem w_X10_windOfGale (L : Nat) (xs : Nat → Int32) {R : v_Rf} (i : Int32) (H2 : Int32 → Int32 → v_Sf → Prop) (K : Int32 → v_Sf → Prop) (k2 : ∀ (x2 : Int32) (x3 : Int32) (S : v_Sf), H2 x2 x3 S → D_X10_windOfGale_2 H2 K x2 x3 S) (n d : Nat) (S : v_Sf) (hD : D_X10_windOfGale i H2 K S) : u_P L xs n d m_X10_windOfGale 0 (lv_args 0 [.ref 87, .ref 2, .int i]) [] S R (z_Q R K) := by
  unfold D_X10_windOfGale at hD
  show u_P L xs n d m_X10_windOfGale 0 [(0, .ref 87), (1, .ref 2), (2, .int i)] [] S R _
  refine u_st rfl (fun _ => rfl) ?_
  refine u_st rfl (fun _ => rfl) ?_
  refine u_lc (b := [(0, .ref 87), (1, .ref 2), (2, .int i), (3, .int (Int32.ofInt 0))]) (show ([3, 0, 1, 2] : List Nat).Nodup by decide) (show ([0, 1, 2, 3] : List Nat).Nodup by decide) (fun i => match i with | 0 => rfl | 1 => rfl | 2 => rfl | 3 => rfl | _ + 4 => rfl) ?_
  exact (hd_X10_windOfGale L xs i H2 K k2 n) d i (Int32.ofInt 0) S hD
noncomputable def r_X10_windOfGale_2 (x2 : Int32) (S : v_Sf) : Nat → Nat → Int32
  | 0, k2 => Int32.ofInt (-1)
  | r + 1, k2 => (if (Int32.ofInt 6) ≤ x2 then Int32.ofInt (-1) else (if ¬ (S 6 ((S 90 (z_i k2).toInt.toNat).toInt.toNat)) = (S 6 ((S 90 x2.toInt.toNat).toInt.toNat)) then r_X10_windOfGale_2 x2 S r (k2 + 1) else S 92 (z_i k2).toInt.toNat))
noncomputable def F_X10_windOfGale (i : Int32) (S : v_Sf) : Int32 := r_X10_windOfGale_2 i S (i.toInt.toNat - 0) 0
noncomputable def f_X10_windOfGale (i : Int32) (S : v_Sf) : Int32 := F_X10_windOfGale i S
theorem c_X10_windOfGale (L : Nat) (xs : Nat → Int32) (n d : Nat) (i : Int32) (S : v_Sf) (R : v_Rf) : u_P L xs n d m_X10_windOfGale 0 (lv_args 0 [.ref 87, .ref 2, .int i]) [] S R (z_Q R (fun v S1 => f_X10_windOfGale i S = v ∧ S = S1)) := by
  refine w_X10_windOfGale L xs i (fun y2 y3 T => ∃ (k2 : Nat), k2 ≤ i.toInt.toNat ∧ z_i k2 = y3 ∧ i = y2 ∧ S = T ∧ r_X10_windOfGale_2 i S (i.toInt.toNat - k2) k2 = F_X10_windOfGale i S) (fun v S1 => f_X10_windOfGale i S = v ∧ S = S1) ?_ n d S ?_
  · rintro _ _ _ ⟨k2, hkk, rfl, rfl, rfl, e⟩
    unfold D_X10_windOfGale_2
    rcases Nat.lt_or_ge k2 (i.toInt.toNat) with hk | hk
    · rw [show i.toInt.toNat - k2 = (i.toInt.toNat - (k2 + 1)) + 1 by omega, r_X10_windOfGale_2] at e
      refine ⟨fun q1 => ?_, fun q1 => ?_⟩
      · exact absurd hk (Nat.not_lt.mpr (z_leV q1 (by omega)))
      · refine ⟨fun q2 => ?_, fun q2 => ?_⟩
        · rw [if_pos q2] at e
          exact ⟨e.symm, rfl⟩
        · intro _ _
          intro _ _
          intro _ _
          intro _ _
          refine ⟨fun q3 => ?_, fun q3 => ?_⟩
          · rw [if_neg q2, if_pos q3] at e
            exact ⟨(k2 + 1), by omega, (z_i1 k2).symm, rfl, rfl, e⟩
          · intro _ _
            rw [if_neg q2, if_neg q3] at e
            exact ⟨e.symm, rfl⟩
    · rw [show i.toInt.toNat - k2 = 0 by omega, r_X10_windOfGale_2] at e
      refine ⟨fun q4 => ?_, fun q4 => ?_⟩
      · exact ⟨e.symm, rfl⟩
      · exact absurd hk (Nat.not_le.mpr (z_ltV q4 (by omega)))
  · unfold D_X10_windOfGale
    have e : r_X10_windOfGale_2 i S (i.toInt.toNat - 0) 0 = F_X10_windOfGale i S := by rw [F_X10_windOfGale]
    exact ⟨0, by omega, rfl, rfl, rfl, e⟩
noncomputable abbrev m_X10_carries : g_M := (g_cn 10, yX10_carries, cX10_carries, 5, (some .boolean), g_look2 ttX10_carries)
set_option maxRecDepth 20000 in
theorem mt_X10_carries : g_mt 109 = some m_X10_carries := rfl
noncomputable def f_X10_carries (k : Int32) (g : Int32) (S : v_Sf) : Int32 := (if (f_X11_isIn (S 86 0) k) = 0 then Int32.ofInt 0 else (if ¬ (S 3 g.toInt.toNat) = (Int32.ofInt 8) then (if (((S 3 g.toInt.toNat) - (S 87 k.toInt.toNat)) &&& (Int32.ofInt 7)) ≤ (Int32.ofInt 1) then (if (S 88 k.toInt.toNat) < ((S 89 k.toInt.toNat) + (S 2 g.toInt.toNat)) then Int32.ofInt 0 else Int32.ofInt 1) else (if ¬ (((S 3 g.toInt.toNat) - (S 87 k.toInt.toNat)) &&& (Int32.ofInt 7)) = (Int32.ofInt 7) then Int32.ofInt 0 else (if (S 88 k.toInt.toNat) < ((S 89 k.toInt.toNat) + (S 2 g.toInt.toNat)) then Int32.ofInt 0 else Int32.ofInt 1))) else Int32.ofInt 0))
set_option maxRecDepth 4000 in
theorem c_X10_carries (L : Nat) (xs : Nat → Int32) (n d : Nat) (k : Int32) (g : Int32) (S : v_Sf) (R : v_Rf) : u_P L xs n d m_X10_carries 0 (lv_args 0 [.ref 87, .ref 2, .int k, .int g]) [] S R (z_Q R (fun v S1 => f_X10_carries k g S = v ∧ S = S1)) := by
  show u_P L xs n d m_X10_carries 0 [(0, .ref 87), (1, .ref 2), (2, .int k), (3, .int g)] [] S R _
  refine u_st rfl (fun _ => rfl) ?_
  show u_P L xs n d m_X10_carries 1 [(0, .ref 87), (1, .ref 2), (2, .int k), (3, .int g)] [.ref 87] S R _
  refine u_getE (v := S 86 0) rfl rfl rfl rfl ?_
  refine u_st rfl (fun _ => rfl) ?_
  show u_P L xs n d m_X10_carries 5 [(0, .ref 87), (1, .ref 2), (2, .int k), (3, .int g)] [.int k, .int (S 86 0)] S R _
  refine u_cs (ac := [.int (S 86 0), .int k]) (rest := []) rfl (by decide) mt_X11_isIn (fun _ => rfl) (Nat.le_of_ble_eq_true rfl) (Nat.le_of_ble_eq_true rfl) (fun d' => c_X11_isIn L xs n d' (S 86 0) k S R) ?_
  rintro _ _ _ ⟨_, rfl, rfl, rfl, rfl⟩
  show u_P L xs n d m_X10_carries 8 [(0, .ref 87), (1, .ref 2), (2, .int k), (3, .int g)] [.int (f_X11_isIn (S 86 0) k)] S R _
  refine u_if_eq rfl (fun h1 => ?_) (fun h1 => ?_)
  · show u_P L xs n d m_X10_carries 22 [(0, .ref 87), (1, .ref 2), (2, .int k), (3, .int g)] [] S R _
    refine u_st rfl (fun _ => rfl) ?_
    show u_P L xs n d m_X10_carries 23 [(0, .ref 87), (1, .ref 2), (2, .int k), (3, .int g)] [.int (Int32.ofInt 0)] S R _
    exact u_retb rfl rfl ⟨_, rfl, rfl, by rw [f_X10_carries, if_pos h1], rfl⟩
  · show u_P L xs n d m_X10_carries 11 [(0, .ref 87), (1, .ref 2), (2, .int k), (3, .int g)] [] S R _
    refine u_st rfl (fun _ => rfl) ?_
    show u_P L xs n d m_X10_carries 12 [(0, .ref 87), (1, .ref 2), (2, .int k), (3, .int g)] [.ref 2] S R _
    refine u_getr rfl rfl rfl ?_
    refine u_st rfl (fun _ => rfl) ?_
    show u_P L xs n d m_X10_carries 16 [(0, .ref 87), (1, .ref 2), (2, .int k), (3, .int g)] [.int g, .ref 4] S R _
    refine u_ialdE (v := S 3 g.toInt.toNat) rfl rfl rfl (fun b21 b22 => ?_)
    refine u_st rfl (fun _ => rfl) ?_
    show u_P L xs n d m_X10_carries 19 [(0, .ref 87), (1, .ref 2), (2, .int k), (3, .int g)] [.int (Int32.ofInt 8), .int (S 3 g.toInt.toNat)] S R _
    refine u_ic_ne rfl (fun h3 => ?_) (fun h3 => ?_)
    · show u_P L xs n d m_X10_carries 24 [(0, .ref 87), (1, .ref 2), (2, .int k), (3, .int g)] [] S R _
      refine u_st rfl (fun _ => rfl) ?_
      show u_P L xs n d m_X10_carries 25 [(0, .ref 87), (1, .ref 2), (2, .int k), (3, .int g)] [.ref 2] S R _
      refine u_getr rfl rfl rfl ?_
      refine u_st rfl (fun _ => rfl) ?_
      show u_P L xs n d m_X10_carries 29 [(0, .ref 87), (1, .ref 2), (2, .int k), (3, .int g)] [.int g, .ref 4] S R _
      refine u_ialdE (v := S 3 g.toInt.toNat) rfl rfl rfl (fun b41 b42 => ?_)
      refine u_st rfl (fun _ => rfl) ?_
      show u_P L xs n d m_X10_carries 31 [(0, .ref 87), (1, .ref 2), (2, .int k), (3, .int g)] [.ref 87, .int (S 3 g.toInt.toNat)] S R _
      refine u_getr rfl rfl rfl ?_
      refine u_st rfl (fun _ => rfl) ?_
      show u_P L xs n d m_X10_carries 35 [(0, .ref 87), (1, .ref 2), (2, .int k), (3, .int g)] [.int k, .ref 88, .int (S 3 g.toInt.toNat)] S R _
      refine u_ialdE (v := S 87 k.toInt.toNat) rfl rfl rfl (fun b51 b52 => ?_)
      refine u_st rfl (fun _ => rfl) ?_
      refine u_st rfl (fun _ => rfl) ?_
      refine u_st rfl (fun _ => rfl) ?_
      refine u_st rfl (fun _ => rfl) ?_
      refine u_st rfl (fun _ => rfl) ?_
      refine u_st rfl (fun _ => rfl) ?_
      show u_P L xs n d m_X10_carries 45 [(4, .int (((S 3 g.toInt.toNat) - (S 87 k.toInt.toNat)) &&& (Int32.ofInt 7))), (0, .ref 87), (1, .ref 2), (2, .int k), (3, .int g)] [.int (Int32.ofInt 1), .int (((S 3 g.toInt.toNat) - (S 87 k.toInt.toNat)) &&& (Int32.ofInt 7))] S R _
      refine u_ic_le rfl (fun h6 => ?_) (fun h6 => ?_)
      · show u_P L xs n d m_X10_carries 55 [(4, .int (((S 3 g.toInt.toNat) - (S 87 k.toInt.toNat)) &&& (Int32.ofInt 7))), (0, .ref 87), (1, .ref 2), (2, .int k), (3, .int g)] [] S R _
        refine u_st rfl (fun _ => rfl) ?_
        show u_P L xs n d m_X10_carries 56 [(4, .int (((S 3 g.toInt.toNat) - (S 87 k.toInt.toNat)) &&& (Int32.ofInt 7))), (0, .ref 87), (1, .ref 2), (2, .int k), (3, .int g)] [.ref 87] S R _
        refine u_getr rfl rfl rfl ?_
        refine u_st rfl (fun _ => rfl) ?_
        show u_P L xs n d m_X10_carries 60 [(4, .int (((S 3 g.toInt.toNat) - (S 87 k.toInt.toNat)) &&& (Int32.ofInt 7))), (0, .ref 87), (1, .ref 2), (2, .int k), (3, .int g)] [.int k, .ref 90] S R _
        refine u_ialdE (v := S 89 k.toInt.toNat) rfl rfl rfl (fun b71 b72 => ?_)
        refine u_st rfl (fun _ => rfl) ?_
        show u_P L xs n d m_X10_carries 62 [(4, .int (((S 3 g.toInt.toNat) - (S 87 k.toInt.toNat)) &&& (Int32.ofInt 7))), (0, .ref 87), (1, .ref 2), (2, .int k), (3, .int g)] [.ref 2, .int (S 89 k.toInt.toNat)] S R _
        refine u_getr rfl rfl rfl ?_
        refine u_st rfl (fun _ => rfl) ?_
        show u_P L xs n d m_X10_carries 66 [(4, .int (((S 3 g.toInt.toNat) - (S 87 k.toInt.toNat)) &&& (Int32.ofInt 7))), (0, .ref 87), (1, .ref 2), (2, .int k), (3, .int g)] [.int g, .ref 3, .int (S 89 k.toInt.toNat)] S R _
        refine u_ialdE (v := S 2 g.toInt.toNat) rfl rfl rfl (fun b81 b82 => ?_)
        refine u_st rfl (fun _ => rfl) ?_
        refine u_st rfl (fun _ => rfl) ?_
        show u_P L xs n d m_X10_carries 69 [(4, .int (((S 3 g.toInt.toNat) - (S 87 k.toInt.toNat)) &&& (Int32.ofInt 7))), (0, .ref 87), (1, .ref 2), (2, .int k), (3, .int g)] [.ref 87, .int ((S 89 k.toInt.toNat) + (S 2 g.toInt.toNat))] S R _
        refine u_getr rfl rfl rfl ?_
        refine u_st rfl (fun _ => rfl) ?_
        show u_P L xs n d m_X10_carries 73 [(4, .int (((S 3 g.toInt.toNat) - (S 87 k.toInt.toNat)) &&& (Int32.ofInt 7))), (0, .ref 87), (1, .ref 2), (2, .int k), (3, .int g)] [.int k, .ref 89, .int ((S 89 k.toInt.toNat) + (S 2 g.toInt.toNat))] S R _
        refine u_ialdE (v := S 88 k.toInt.toNat) rfl rfl rfl (fun b91 b92 => ?_)
        show u_P L xs n d m_X10_carries 74 [(4, .int (((S 3 g.toInt.toNat) - (S 87 k.toInt.toNat)) &&& (Int32.ofInt 7))), (0, .ref 87), (1, .ref 2), (2, .int k), (3, .int g)] [.int (S 88 k.toInt.toNat), .int ((S 89 k.toInt.toNat) + (S 2 g.toInt.toNat))] S R _
        refine u_ic_gt rfl (fun h10 => ?_) (fun h10 => ?_)
        · show u_P L xs n d m_X10_carries 81 [(4, .int (((S 3 g.toInt.toNat) - (S 87 k.toInt.toNat)) &&& (Int32.ofInt 7))), (0, .ref 87), (1, .ref 2), (2, .int k), (3, .int g)] [] S R _
          refine u_st rfl (fun _ => rfl) ?_
          show u_P L xs n d m_X10_carries 82 [(4, .int (((S 3 g.toInt.toNat) - (S 87 k.toInt.toNat)) &&& (Int32.ofInt 7))), (0, .ref 87), (1, .ref 2), (2, .int k), (3, .int g)] [.int (Int32.ofInt 0)] S R _
          exact u_retb rfl rfl ⟨_, rfl, rfl, by rw [f_X10_carries, if_neg h1, if_pos h3, if_pos h6, if_pos h10], rfl⟩
        · show u_P L xs n d m_X10_carries 77 [(4, .int (((S 3 g.toInt.toNat) - (S 87 k.toInt.toNat)) &&& (Int32.ofInt 7))), (0, .ref 87), (1, .ref 2), (2, .int k), (3, .int g)] [] S R _
          refine u_st rfl (fun _ => rfl) ?_
          refine u_st rfl (fun _ => rfl) ?_
          show u_P L xs n d m_X10_carries 82 [(4, .int (((S 3 g.toInt.toNat) - (S 87 k.toInt.toNat)) &&& (Int32.ofInt 7))), (0, .ref 87), (1, .ref 2), (2, .int k), (3, .int g)] [.int (Int32.ofInt 1)] S R _
          exact u_retb rfl rfl ⟨_, rfl, rfl, by rw [f_X10_carries, if_neg h1, if_pos h3, if_pos h6, if_neg h10], rfl⟩
      · show u_P L xs n d m_X10_carries 48 [(4, .int (((S 3 g.toInt.toNat) - (S 87 k.toInt.toNat)) &&& (Int32.ofInt 7))), (0, .ref 87), (1, .ref 2), (2, .int k), (3, .int g)] [] S R _
        refine u_st rfl (fun _ => rfl) ?_
        refine u_st rfl (fun _ => rfl) ?_
        show u_P L xs n d m_X10_carries 52 [(4, .int (((S 3 g.toInt.toNat) - (S 87 k.toInt.toNat)) &&& (Int32.ofInt 7))), (0, .ref 87), (1, .ref 2), (2, .int k), (3, .int g)] [.int (Int32.ofInt 7), .int (((S 3 g.toInt.toNat) - (S 87 k.toInt.toNat)) &&& (Int32.ofInt 7))] S R _
        refine u_ic_ne rfl (fun h11 => ?_) (fun h11 => ?_)
        · show u_P L xs n d m_X10_carries 81 [(4, .int (((S 3 g.toInt.toNat) - (S 87 k.toInt.toNat)) &&& (Int32.ofInt 7))), (0, .ref 87), (1, .ref 2), (2, .int k), (3, .int g)] [] S R _
          refine u_st rfl (fun _ => rfl) ?_
          show u_P L xs n d m_X10_carries 82 [(4, .int (((S 3 g.toInt.toNat) - (S 87 k.toInt.toNat)) &&& (Int32.ofInt 7))), (0, .ref 87), (1, .ref 2), (2, .int k), (3, .int g)] [.int (Int32.ofInt 0)] S R _
          exact u_retb rfl rfl ⟨_, rfl, rfl, by rw [f_X10_carries, if_neg h1, if_pos h3, if_neg h6, if_pos h11], rfl⟩
        · show u_P L xs n d m_X10_carries 55 [(4, .int (((S 3 g.toInt.toNat) - (S 87 k.toInt.toNat)) &&& (Int32.ofInt 7))), (0, .ref 87), (1, .ref 2), (2, .int k), (3, .int g)] [] S R _
          refine u_st rfl (fun _ => rfl) ?_
          show u_P L xs n d m_X10_carries 56 [(4, .int (((S 3 g.toInt.toNat) - (S 87 k.toInt.toNat)) &&& (Int32.ofInt 7))), (0, .ref 87), (1, .ref 2), (2, .int k), (3, .int g)] [.ref 87] S R _
          refine u_getr rfl rfl rfl ?_
          refine u_st rfl (fun _ => rfl) ?_
          show u_P L xs n d m_X10_carries 60 [(4, .int (((S 3 g.toInt.toNat) - (S 87 k.toInt.toNat)) &&& (Int32.ofInt 7))), (0, .ref 87), (1, .ref 2), (2, .int k), (3, .int g)] [.int k, .ref 90] S R _
          refine u_ialdE (v := S 89 k.toInt.toNat) rfl rfl rfl (fun b121 b122 => ?_)
          refine u_st rfl (fun _ => rfl) ?_
          show u_P L xs n d m_X10_carries 62 [(4, .int (((S 3 g.toInt.toNat) - (S 87 k.toInt.toNat)) &&& (Int32.ofInt 7))), (0, .ref 87), (1, .ref 2), (2, .int k), (3, .int g)] [.ref 2, .int (S 89 k.toInt.toNat)] S R _
          refine u_getr rfl rfl rfl ?_
          refine u_st rfl (fun _ => rfl) ?_
          show u_P L xs n d m_X10_carries 66 [(4, .int (((S 3 g.toInt.toNat) - (S 87 k.toInt.toNat)) &&& (Int32.ofInt 7))), (0, .ref 87), (1, .ref 2), (2, .int k), (3, .int g)] [.int g, .ref 3, .int (S 89 k.toInt.toNat)] S R _
          refine u_ialdE (v := S 2 g.toInt.toNat) rfl rfl rfl (fun b131 b132 => ?_)
          refine u_st rfl (fun _ => rfl) ?_
          refine u_st rfl (fun _ => rfl) ?_
          show u_P L xs n d m_X10_carries 69 [(4, .int (((S 3 g.toInt.toNat) - (S 87 k.toInt.toNat)) &&& (Int32.ofInt 7))), (0, .ref 87), (1, .ref 2), (2, .int k), (3, .int g)] [.ref 87, .int ((S 89 k.toInt.toNat) + (S 2 g.toInt.toNat))] S R _
          refine u_getr rfl rfl rfl ?_
          refine u_st rfl (fun _ => rfl) ?_
          show u_P L xs n d m_X10_carries 73 [(4, .int (((S 3 g.toInt.toNat) - (S 87 k.toInt.toNat)) &&& (Int32.ofInt 7))), (0, .ref 87), (1, .ref 2), (2, .int k), (3, .int g)] [.int k, .ref 89, .int ((S 89 k.toInt.toNat) + (S 2 g.toInt.toNat))] S R _
          refine u_ialdE (v := S 88 k.toInt.toNat) rfl rfl rfl (fun b141 b142 => ?_)
          show u_P L xs n d m_X10_carries 74 [(4, .int (((S 3 g.toInt.toNat) - (S 87 k.toInt.toNat)) &&& (Int32.ofInt 7))), (0, .ref 87), (1, .ref 2), (2, .int k), (3, .int g)] [.int (S 88 k.toInt.toNat), .int ((S 89 k.toInt.toNat) + (S 2 g.toInt.toNat))] S R _
          refine u_ic_gt rfl (fun h15 => ?_) (fun h15 => ?_)
          · show u_P L xs n d m_X10_carries 81 [(4, .int (((S 3 g.toInt.toNat) - (S 87 k.toInt.toNat)) &&& (Int32.ofInt 7))), (0, .ref 87), (1, .ref 2), (2, .int k), (3, .int g)] [] S R _
            refine u_st rfl (fun _ => rfl) ?_
            show u_P L xs n d m_X10_carries 82 [(4, .int (((S 3 g.toInt.toNat) - (S 87 k.toInt.toNat)) &&& (Int32.ofInt 7))), (0, .ref 87), (1, .ref 2), (2, .int k), (3, .int g)] [.int (Int32.ofInt 0)] S R _
            exact u_retb rfl rfl ⟨_, rfl, rfl, by rw [f_X10_carries, if_neg h1, if_pos h3, if_neg h6, if_neg h11, if_pos h15], rfl⟩
          · show u_P L xs n d m_X10_carries 77 [(4, .int (((S 3 g.toInt.toNat) - (S 87 k.toInt.toNat)) &&& (Int32.ofInt 7))), (0, .ref 87), (1, .ref 2), (2, .int k), (3, .int g)] [] S R _
            refine u_st rfl (fun _ => rfl) ?_
            refine u_st rfl (fun _ => rfl) ?_
            show u_P L xs n d m_X10_carries 82 [(4, .int (((S 3 g.toInt.toNat) - (S 87 k.toInt.toNat)) &&& (Int32.ofInt 7))), (0, .ref 87), (1, .ref 2), (2, .int k), (3, .int g)] [.int (Int32.ofInt 1)] S R _
            exact u_retb rfl rfl ⟨_, rfl, rfl, by rw [f_X10_carries, if_neg h1, if_pos h3, if_neg h6, if_neg h11, if_neg h15], rfl⟩
    · show u_P L xs n d m_X10_carries 22 [(0, .ref 87), (1, .ref 2), (2, .int k), (3, .int g)] [] S R _
      refine u_st rfl (fun _ => rfl) ?_
      show u_P L xs n d m_X10_carries 23 [(0, .ref 87), (1, .ref 2), (2, .int k), (3, .int g)] [.int (Int32.ofInt 0)] S R _
      exact u_retb rfl rfl ⟨_, rfl, rfl, by rw [f_X10_carries, if_neg h1, if_neg h3], rfl⟩
noncomputable abbrev m_X10_mayBeat : g_M := (g_cn 10, yX10_mayBeat, cX10_mayBeat, 3, (some .boolean), g_look2 ttX10_mayBeat)
set_option maxRecDepth 20000 in
theorem mt_X10_mayBeat : g_mt 107 = some m_X10_mayBeat := rfl
noncomputable def f_X10_mayBeat (a : Int32) (b : Int32) (S : v_Sf) : Int32 := (if (S 86 9) < a then Int32.ofInt 1 else (if ¬ a = (S 86 9) then Int32.ofInt 0 else (if b ≤ (S 86 10) then Int32.ofInt 0 else Int32.ofInt 1)))
set_option maxRecDepth 4000 in
theorem c_X10_mayBeat (L : Nat) (xs : Nat → Int32) (n d : Nat) (a : Int32) (b : Int32) (S : v_Sf) (R : v_Rf) : u_P L xs n d m_X10_mayBeat 0 (lv_args 0 [.ref 87, .int a, .int b]) [] S R (z_Q R (fun v S1 => f_X10_mayBeat a b S = v ∧ S = S1)) := by
  show u_P L xs n d m_X10_mayBeat 0 [(0, .ref 87), (1, .int a), (2, .int b)] [] S R _
  refine u_st rfl (fun _ => rfl) ?_
  refine u_st rfl (fun _ => rfl) ?_
  show u_P L xs n d m_X10_mayBeat 2 [(0, .ref 87), (1, .int a), (2, .int b)] [.ref 87, .int a] S R _
  refine u_getE (v := S 86 9) rfl rfl rfl rfl ?_
  show u_P L xs n d m_X10_mayBeat 5 [(0, .ref 87), (1, .int a), (2, .int b)] [.int (S 86 9), .int a] S R _
  refine u_ic_gt rfl (fun h1 => ?_) (fun h1 => ?_)
  · show u_P L xs n d m_X10_mayBeat 24 [(0, .ref 87), (1, .int a), (2, .int b)] [] S R _
    refine u_st rfl (fun _ => rfl) ?_
    refine u_st rfl (fun _ => rfl) ?_
    show u_P L xs n d m_X10_mayBeat 29 [(0, .ref 87), (1, .int a), (2, .int b)] [.int (Int32.ofInt 1)] S R _
    exact u_retb rfl rfl ⟨_, rfl, rfl, by rw [f_X10_mayBeat, if_pos h1], rfl⟩
  · show u_P L xs n d m_X10_mayBeat 8 [(0, .ref 87), (1, .int a), (2, .int b)] [] S R _
    refine u_st rfl (fun _ => rfl) ?_
    refine u_st rfl (fun _ => rfl) ?_
    show u_P L xs n d m_X10_mayBeat 10 [(0, .ref 87), (1, .int a), (2, .int b)] [.ref 87, .int a] S R _
    refine u_getE (v := S 86 9) rfl rfl rfl rfl ?_
    show u_P L xs n d m_X10_mayBeat 13 [(0, .ref 87), (1, .int a), (2, .int b)] [.int (S 86 9), .int a] S R _
    refine u_ic_ne rfl (fun h2 => ?_) (fun h2 => ?_)
    · show u_P L xs n d m_X10_mayBeat 28 [(0, .ref 87), (1, .int a), (2, .int b)] [] S R _
      refine u_st rfl (fun _ => rfl) ?_
      show u_P L xs n d m_X10_mayBeat 29 [(0, .ref 87), (1, .int a), (2, .int b)] [.int (Int32.ofInt 0)] S R _
      exact u_retb rfl rfl ⟨_, rfl, rfl, by rw [f_X10_mayBeat, if_neg h1, if_pos h2], rfl⟩
    · show u_P L xs n d m_X10_mayBeat 16 [(0, .ref 87), (1, .int a), (2, .int b)] [] S R _
      refine u_st rfl (fun _ => rfl) ?_
      refine u_st rfl (fun _ => rfl) ?_
      show u_P L xs n d m_X10_mayBeat 18 [(0, .ref 87), (1, .int a), (2, .int b)] [.ref 87, .int b] S R _
      refine u_getE (v := S 86 10) rfl rfl rfl rfl ?_
      show u_P L xs n d m_X10_mayBeat 21 [(0, .ref 87), (1, .int a), (2, .int b)] [.int (S 86 10), .int b] S R _
      refine u_ic_le rfl (fun h3 => ?_) (fun h3 => ?_)
      · show u_P L xs n d m_X10_mayBeat 28 [(0, .ref 87), (1, .int a), (2, .int b)] [] S R _
        refine u_st rfl (fun _ => rfl) ?_
        show u_P L xs n d m_X10_mayBeat 29 [(0, .ref 87), (1, .int a), (2, .int b)] [.int (Int32.ofInt 0)] S R _
        exact u_retb rfl rfl ⟨_, rfl, rfl, by rw [f_X10_mayBeat, if_neg h1, if_neg h2, if_pos h3], rfl⟩
      · show u_P L xs n d m_X10_mayBeat 24 [(0, .ref 87), (1, .int a), (2, .int b)] [] S R _
        refine u_st rfl (fun _ => rfl) ?_
        refine u_st rfl (fun _ => rfl) ?_
        show u_P L xs n d m_X10_mayBeat 29 [(0, .ref 87), (1, .int a), (2, .int b)] [.int (Int32.ofInt 1)] S R _
        exact u_retb rfl rfl ⟨_, rfl, rfl, by rw [f_X10_mayBeat, if_neg h1, if_neg h2, if_neg h3], rfl⟩
noncomputable abbrev m_X10_windOf : g_M := (g_cn 10, yX10_windOf, cX10_windOf, 4, (some .int), g_look2 ttX10_windOf)
set_option maxRecDepth 20000 in
theorem mt_X10_windOf : g_mt 105 = some m_X10_windOf := rfl
noncomputable def f_X10_windOf (a : Int32) (g : Int32) (S : v_Sf) : Int32 := (if ¬ (f_X11_isIn a g) = 0 then (if (Int32.ofInt 6) ≤ (f_X11_placeIn a g) then Int32.ofInt (-1) else S 93 ((f_X11_placeIn a g).toInt.toNat)) else Int32.ofInt (-1))
set_option maxRecDepth 4000 in
theorem c_X10_windOf (L : Nat) (xs : Nat → Int32) (n d : Nat) (a : Int32) (g : Int32) (S : v_Sf) (R : v_Rf) : u_P L xs n d m_X10_windOf 0 (lv_args 0 [.ref 87, .int a, .int g]) [] S R (z_Q R (fun v S1 => f_X10_windOf a g S = v ∧ S = S1)) := by
  show u_P L xs n d m_X10_windOf 0 [(0, .ref 87), (1, .int a), (2, .int g)] [] S R _
  refine u_st rfl (fun _ => rfl) ?_
  refine u_st rfl (fun _ => rfl) ?_
  show u_P L xs n d m_X10_windOf 2 [(0, .ref 87), (1, .int a), (2, .int g)] [.int g, .int a] S R _
  refine u_cs (ac := [.int a, .int g]) (rest := []) rfl (by decide) mt_X11_isIn (fun _ => rfl) (Nat.le_of_ble_eq_true rfl) (Nat.le_of_ble_eq_true rfl) (fun d' => c_X11_isIn L xs n d' a g S R) ?_
  rintro _ _ _ ⟨_, rfl, rfl, rfl, rfl⟩
  show u_P L xs n d m_X10_windOf 5 [(0, .ref 87), (1, .int a), (2, .int g)] [.int (f_X11_isIn a g)] S R _
  refine u_if_ne rfl (fun h1 => ?_) (fun h1 => ?_)
  · show u_P L xs n d m_X10_windOf 10 [(0, .ref 87), (1, .int a), (2, .int g)] [] S R _
    refine u_st rfl (fun _ => rfl) ?_
    refine u_st rfl (fun _ => rfl) ?_
    show u_P L xs n d m_X10_windOf 12 [(0, .ref 87), (1, .int a), (2, .int g)] [.int g, .int a] S R _
    refine u_cs (ac := [.int a, .int g]) (rest := []) rfl (by decide) mt_X11_placeIn (fun _ => rfl) (Nat.le_of_ble_eq_true rfl) (Nat.le_of_ble_eq_true rfl) (fun d' => c_X11_placeIn L xs n d' a g S R) ?_
    rintro _ _ _ ⟨_, rfl, rfl, rfl, rfl⟩
    refine u_st rfl (fun _ => rfl) ?_
    refine u_st rfl (fun _ => rfl) ?_
    refine u_st rfl (fun _ => rfl) ?_
    show u_P L xs n d m_X10_windOf 19 [(3, .int (f_X11_placeIn a g)), (0, .ref 87), (1, .int a), (2, .int g)] [.int (Int32.ofInt 6), .int (f_X11_placeIn a g)] S R _
    refine u_ic_ge rfl (fun h2 => ?_) (fun h2 => ?_)
    · show u_P L xs n d m_X10_windOf 31 [(3, .int (f_X11_placeIn a g)), (0, .ref 87), (1, .int a), (2, .int g)] [] S R _
      refine u_st rfl (fun _ => rfl) ?_
      show u_P L xs n d m_X10_windOf 32 [(3, .int (f_X11_placeIn a g)), (0, .ref 87), (1, .int a), (2, .int g)] [.int (Int32.ofInt (-1))] S R _
      exact u_ret rfl rfl ⟨_, rfl, rfl, by rw [f_X10_windOf, if_pos h1, if_pos h2], rfl⟩
    · show u_P L xs n d m_X10_windOf 22 [(3, .int (f_X11_placeIn a g)), (0, .ref 87), (1, .int a), (2, .int g)] [] S R _
      refine u_st rfl (fun _ => rfl) ?_
      show u_P L xs n d m_X10_windOf 23 [(3, .int (f_X11_placeIn a g)), (0, .ref 87), (1, .int a), (2, .int g)] [.ref 87] S R _
      refine u_getr rfl rfl rfl ?_
      refine u_st rfl (fun _ => rfl) ?_
      show u_P L xs n d m_X10_windOf 27 [(3, .int (f_X11_placeIn a g)), (0, .ref 87), (1, .int a), (2, .int g)] [.int (f_X11_placeIn a g), .ref 94] S R _
      refine u_ialdE (v := S 93 ((f_X11_placeIn a g).toInt.toNat)) rfl rfl rfl (fun b31 b32 => ?_)
      refine u_st rfl (fun _ => rfl) ?_
      show u_P L xs n d m_X10_windOf 32 [(3, .int (f_X11_placeIn a g)), (0, .ref 87), (1, .int a), (2, .int g)] [.int (S 93 ((f_X11_placeIn a g).toInt.toNat))] S R _
      exact u_ret rfl rfl ⟨_, rfl, rfl, by rw [f_X10_windOf, if_pos h1, if_neg h2], rfl⟩
  · show u_P L xs n d m_X10_windOf 8 [(0, .ref 87), (1, .int a), (2, .int g)] [] S R _
    refine u_st rfl (fun _ => rfl) ?_
    show u_P L xs n d m_X10_windOf 9 [(0, .ref 87), (1, .int a), (2, .int g)] [.int (Int32.ofInt (-1))] S R _
    exact u_ret rfl rfl ⟨_, rfl, rfl, by rw [f_X10_windOf, if_neg h1], rfl⟩
noncomputable abbrev m_X11_chosen : g_M := (g_cn 11, yX11_chosen, cX11_chosen, 5, (some .boolean), g_look2 ttX11_chosen)
set_option maxRecDepth 20000 in
theorem mt_X11_chosen : g_mt 150 = some m_X11_chosen := rfl
noncomputable def f_X11_chosen (a : Int32) (b : Int32) (i : Int32) (S : v_Sf) : Int32 := (if ¬ (a &&& ((S 1 0) ^^^ (Int32.ofInt (-1)))) = 0 then Int32.ofInt 0 else (if (f_J6_bitCount_0f7a4 a) < b then Int32.ofInt 0 else (if i < (f_J6_bitCount_0f7a4 a) then Int32.ofInt 0 else Int32.ofInt 1)))
set_option maxRecDepth 4000 in
theorem c_X11_chosen (L : Nat) (xs : Nat → Int32) (n d : Nat) (a : Int32) (b : Int32) (i : Int32) (S : v_Sf) (R : v_Rf) : u_P L xs n d m_X11_chosen 0 (lv_args 0 [.ref 1, .int a, .int b, .int i]) [] S R (z_Q R (fun v S1 => f_X11_chosen a b i S = v ∧ S = S1)) := by
  show u_P L xs n d m_X11_chosen 0 [(0, .ref 1), (1, .int a), (2, .int b), (3, .int i)] [] S R _
  refine u_st rfl (fun _ => rfl) ?_
  show u_P L xs n d m_X11_chosen 1 [(0, .ref 1), (1, .int a), (2, .int b), (3, .int i)] [.int a] S R _
  refine u_cs (ac := [.int a]) (rest := []) rfl (by decide) mt_J6_bitCount_0f7a4 (fun _ => rfl) (Nat.le_of_ble_eq_true rfl) (Nat.le_of_ble_eq_true rfl) (fun d' => c_J6_bitCount_0f7a4 L xs n d' a S R) ?_
  rintro _ _ _ ⟨_, rfl, rfl, rfl, rfl⟩
  refine u_st rfl (fun _ => rfl) ?_
  refine u_st rfl (fun _ => rfl) ?_
  refine u_st rfl (fun _ => rfl) ?_
  show u_P L xs n d m_X11_chosen 8 [(4, .int (f_J6_bitCount_0f7a4 a)), (0, .ref 1), (1, .int a), (2, .int b), (3, .int i)] [.ref 1, .int a] S R _
  refine u_getr rfl v_tyC rfl ?_
  show u_P L xs n d m_X11_chosen 11 [(4, .int (f_J6_bitCount_0f7a4 a)), (0, .ref 1), (1, .int a), (2, .int b), (3, .int i)] [.ref 2, .int a] S R _
  refine u_getE (v := S 1 0) rfl rfl rfl rfl ?_
  refine u_st rfl (fun _ => rfl) ?_
  refine u_st rfl (fun _ => rfl) ?_
  refine u_st rfl (fun _ => rfl) ?_
  show u_P L xs n d m_X11_chosen 17 [(4, .int (f_J6_bitCount_0f7a4 a)), (0, .ref 1), (1, .int a), (2, .int b), (3, .int i)] [.int (a &&& ((S 1 0) ^^^ (Int32.ofInt (-1))))] S R _
  refine u_if_ne rfl (fun h1 => ?_) (fun h1 => ?_)
  · show u_P L xs n d m_X11_chosen 36 [(4, .int (f_J6_bitCount_0f7a4 a)), (0, .ref 1), (1, .int a), (2, .int b), (3, .int i)] [] S R _
    refine u_st rfl (fun _ => rfl) ?_
    show u_P L xs n d m_X11_chosen 37 [(4, .int (f_J6_bitCount_0f7a4 a)), (0, .ref 1), (1, .int a), (2, .int b), (3, .int i)] [.int (Int32.ofInt 0)] S R _
    exact u_retb rfl rfl ⟨_, rfl, rfl, by rw [f_X11_chosen, if_pos h1], rfl⟩
  · show u_P L xs n d m_X11_chosen 20 [(4, .int (f_J6_bitCount_0f7a4 a)), (0, .ref 1), (1, .int a), (2, .int b), (3, .int i)] [] S R _
    refine u_st rfl (fun _ => rfl) ?_
    refine u_st rfl (fun _ => rfl) ?_
    show u_P L xs n d m_X11_chosen 23 [(4, .int (f_J6_bitCount_0f7a4 a)), (0, .ref 1), (1, .int a), (2, .int b), (3, .int i)] [.int b, .int (f_J6_bitCount_0f7a4 a)] S R _
    refine u_ic_lt rfl (fun h2 => ?_) (fun h2 => ?_)
    · show u_P L xs n d m_X11_chosen 36 [(4, .int (f_J6_bitCount_0f7a4 a)), (0, .ref 1), (1, .int a), (2, .int b), (3, .int i)] [] S R _
      refine u_st rfl (fun _ => rfl) ?_
      show u_P L xs n d m_X11_chosen 37 [(4, .int (f_J6_bitCount_0f7a4 a)), (0, .ref 1), (1, .int a), (2, .int b), (3, .int i)] [.int (Int32.ofInt 0)] S R _
      exact u_retb rfl rfl ⟨_, rfl, rfl, by rw [f_X11_chosen, if_neg h1, if_pos h2], rfl⟩
    · show u_P L xs n d m_X11_chosen 26 [(4, .int (f_J6_bitCount_0f7a4 a)), (0, .ref 1), (1, .int a), (2, .int b), (3, .int i)] [] S R _
      refine u_st rfl (fun _ => rfl) ?_
      refine u_st rfl (fun _ => rfl) ?_
      show u_P L xs n d m_X11_chosen 29 [(4, .int (f_J6_bitCount_0f7a4 a)), (0, .ref 1), (1, .int a), (2, .int b), (3, .int i)] [.int i, .int (f_J6_bitCount_0f7a4 a)] S R _
      refine u_ic_gt rfl (fun h3 => ?_) (fun h3 => ?_)
      · show u_P L xs n d m_X11_chosen 36 [(4, .int (f_J6_bitCount_0f7a4 a)), (0, .ref 1), (1, .int a), (2, .int b), (3, .int i)] [] S R _
        refine u_st rfl (fun _ => rfl) ?_
        show u_P L xs n d m_X11_chosen 37 [(4, .int (f_J6_bitCount_0f7a4 a)), (0, .ref 1), (1, .int a), (2, .int b), (3, .int i)] [.int (Int32.ofInt 0)] S R _
        exact u_retb rfl rfl ⟨_, rfl, rfl, by rw [f_X11_chosen, if_neg h1, if_neg h2, if_pos h3], rfl⟩
      · show u_P L xs n d m_X11_chosen 32 [(4, .int (f_J6_bitCount_0f7a4 a)), (0, .ref 1), (1, .int a), (2, .int b), (3, .int i)] [] S R _
        refine u_st rfl (fun _ => rfl) ?_
        refine u_st rfl (fun _ => rfl) ?_
        show u_P L xs n d m_X11_chosen 37 [(4, .int (f_J6_bitCount_0f7a4 a)), (0, .ref 1), (1, .int a), (2, .int b), (3, .int i)] [.int (Int32.ofInt 1)] S R _
        exact u_retb rfl rfl ⟨_, rfl, rfl, by rw [f_X11_chosen, if_neg h1, if_neg h2, if_neg h3], rfl⟩
end PrtS42n_w1
section PrtS42n_w2
noncomputable abbrev m_X10_sendFrom : g_M := (g_cn 10, yX10_sendFrom, cX10_sendFrom, 8, none, g_look2 ttX10_sendFrom)
set_option maxRecDepth 20000 in
theorem mt_X10_sendFrom : g_mt 106 = some m_X10_sendFrom := rfl
noncomputable def D_sendFromF_96 (pr : Int32 → Prop) (φ : Int32 → Int32 → Int32 → v_Sf → v_Sf) (H96 : Int32 → Int32 → Int32 → Int32 → Int32 → Int32 → v_Sf → Prop) (K : v_Sf → Prop) (x2 : Int32) (x3 : Int32) (x4 : Int32) (x5 : Int32) (x6 : Int32) (x7 : Int32) (S : v_Sf) : Prop := (((Int32.ofInt 4) ≤ x7 → ((x6 = (Int32.ofInt (-1)) → (0 ≤ x2.toInt → x2.toInt < 6 → (pr (x2 + (Int32.ofInt 1)) ∧ K (φ (x2 + (Int32.ofInt 1)) x3 x4 (z_s S 92 x2.toInt.toNat (Int32.ofInt 4)))))) ∧ (¬ (x6 = (Int32.ofInt (-1))) → (((¬ x6 = (Int32.ofInt 4)) → K S) ∧ (¬ (¬ x6 = (Int32.ofInt 4)) → (0 ≤ x2.toInt → x2.toInt < 6 → (pr (x2 + (Int32.ofInt 1)) ∧ K (φ (x2 + (Int32.ofInt 1)) x3 x4 (z_s S 92 x2.toInt.toNat (Int32.ofInt 4)))))))))) ∧ (¬ ((Int32.ofInt 4) ≤ x7) → ((x6 = (Int32.ofInt (-1)) → (0 ≤ x2.toInt → x2.toInt < 6 → (((f_X10_carries x7 (S 90 x2.toInt.toNat) S) = 0 → H96 x2 x3 x4 x5 x6 (x7 + (Int32.ofInt 1)) S) ∧ (¬ ((f_X10_carries x7 (S 90 x2.toInt.toNat) S) = 0) → (0 ≤ x2.toInt → x2.toInt < 6 → (0 ≤ x7.toInt → x7.toInt < 4 → (0 ≤ x7.toInt → x7.toInt < 4 → (pr (x2 + (Int32.ofInt 1)) ∧ (0 ≤ x7.toInt → x7.toInt < 4 → (0 ≤ x7.toInt → x7.toInt < 4 → H96 x2 x3 x4 x5 x6 (x7 + (Int32.ofInt 1)) (z_s (φ (x2 + (Int32.ofInt 1)) (x3 + (Int32.ofInt 1)) (x4 + x5) (z_s (z_s S 92 x2.toInt.toNat x7) 89 x7.toInt.toNat ((S 89 x7.toInt.toNat) + x5))) 89 x7.toInt.toNat (((φ (x2 + (Int32.ofInt 1)) (x3 + (Int32.ofInt 1)) (x4 + x5) (z_s (z_s S 92 x2.toInt.toNat x7) 89 x7.toInt.toNat ((S 89 x7.toInt.toNat) + x5))) 89 x7.toInt.toNat) - x5)))))))))))) ∧ (¬ (x6 = (Int32.ofInt (-1))) → (((¬ x6 = x7) → H96 x2 x3 x4 x5 x6 (x7 + (Int32.ofInt 1)) S) ∧ (¬ (¬ x6 = x7) → (0 ≤ x2.toInt → x2.toInt < 6 → (((f_X10_carries x7 (S 90 x2.toInt.toNat) S) = 0 → H96 x2 x3 x4 x5 x6 (x7 + (Int32.ofInt 1)) S) ∧ (¬ ((f_X10_carries x7 (S 90 x2.toInt.toNat) S) = 0) → (0 ≤ x2.toInt → x2.toInt < 6 → (0 ≤ x7.toInt → x7.toInt < 4 → (0 ≤ x7.toInt → x7.toInt < 4 → (pr (x2 + (Int32.ofInt 1)) ∧ (0 ≤ x7.toInt → x7.toInt < 4 → (0 ≤ x7.toInt → x7.toInt < 4 → H96 x2 x3 x4 x5 x6 (x7 + (Int32.ofInt 1)) (z_s (φ (x2 + (Int32.ofInt 1)) (x3 + (Int32.ofInt 1)) (x4 + x5) (z_s (z_s S 92 x2.toInt.toNat x7) 89 x7.toInt.toNat ((S 89 x7.toInt.toNat) + x5))) 89 x7.toInt.toNat (((φ (x2 + (Int32.ofInt 1)) (x3 + (Int32.ofInt 1)) (x4 + x5) (z_s (z_s S 92 x2.toInt.toNat x7) 89 x7.toInt.toNat ((S 89 x7.toInt.toNat) + x5))) 89 x7.toInt.toNat) - x5)))))))))))))))))
noncomputable def D_sendFromF (pr : Int32 → Prop) (φ : Int32 → Int32 → Int32 → v_Sf → v_Sf) (i : Int32) (g : Int32) (w : Int32) (H96 : Int32 → Int32 → Int32 → Int32 → Int32 → Int32 → v_Sf → Prop) (K : v_Sf → Prop) (S : v_Sf) : Prop := (((Int32.ofInt 6) < i → K S) ∧ (¬ ((Int32.ofInt 6) < i) → (0 ≤ i.toInt → i.toInt < 7 → (((¬ (f_X10_mayBeat ((g + (S 86 5)) - i) (w + (S 91 i.toInt.toNat)) S) = 0) → (((S 86 5) ≤ i → K (z_cp (z_s (z_s S 86 9 g) 86 10 w) 92 93 (Int32.ofInt 6))) ∧ (¬ ((S 86 5) ≤ i) → ((i < (Int32.ofInt 6) → (0 ≤ i.toInt → i.toInt < 6 → (0 ≤ (S 90 i.toInt.toNat).toInt → (S 90 i.toInt.toNat).toInt < 12 → H96 i g w (S 2 ((S 90 i.toInt.toNat).toInt.toNat)) (f_X10_windOfGale i S) (Int32.ofInt 0) S))) ∧ (¬ (i < (Int32.ofInt 6)) → K (z_cp (z_s (z_s S 86 9 g) 86 10 w) 92 93 (Int32.ofInt 6))))))) ∧ (¬ (¬ (f_X10_mayBeat ((g + (S 86 5)) - i) (w + (S 91 i.toInt.toNat)) S) = 0) → K S)))))
set_option maxRecDepth 4000 in
theorem hd_sendFromF (L : Nat) (xs : Nat → Int32) {R : v_Rf} (pr : Int32 → Prop) (φ : Int32 → Int32 → Int32 → v_Sf → v_Sf) (hφ : ∀ (n d : Nat) (i go w : Int32) (S : v_Sf), pr i → u_P L xs n d m_X10_sendFrom 0 (lv_args 0 [.ref 87, .ref 2, .int i, .int go, .int w]) [] S R (z_V R (fun S1 => φ i go w S = S1))) (i : Int32) (g : Int32) (w : Int32) (H96 : Int32 → Int32 → Int32 → Int32 → Int32 → Int32 → v_Sf → Prop) (K : v_Sf → Prop) (k96 : ∀ (x2 : Int32) (x3 : Int32) (x4 : Int32) (x5 : Int32) (x6 : Int32) (x7 : Int32) (S : v_Sf), H96 x2 x3 x4 x5 x6 x7 S → D_sendFromF_96 pr φ H96 K x2 x3 x4 x5 x6 x7 S) : ∀ n, (∀ (d : Nat) (x2 : Int32) (x3 : Int32) (x4 : Int32) (x5 : Int32) (x6 : Int32) (x7 : Int32) (S : v_Sf), H96 x2 x3 x4 x5 x6 x7 S → u_P L xs n d m_X10_sendFrom 96 [(0, .ref 87), (1, .ref 2), (2, .int x2), (3, .int x3), (4, .int x4), (5, .int x5), (6, .int x6), (7, .int x7)] [] S R (z_V R K)) := by
  intro n
  induction n using Nat.strongRecOn with
  | ind n ih =>
    intro d x2 x3 x4 x5 x6 x7 S hD
    have hD := k96 x2 x3 x4 x5 x6 x7 S hD
    unfold D_sendFromF_96 at hD
    show u_P L xs n d m_X10_sendFrom 96 [(0, .ref 87), (1, .ref 2), (2, .int x2), (3, .int x3), (4, .int x4), (5, .int x5), (6, .int x6), (7, .int x7)] [] S R _
    refine u_st1 rfl (fun _ => rfl) (fun m hm => ?_)
    refine u_st rfl (fun _ => rfl) ?_
    show u_P L xs m d m_X10_sendFrom 99 [(0, .ref 87), (1, .ref 2), (2, .int x2), (3, .int x3), (4, .int x4), (5, .int x5), (6, .int x6), (7, .int x7)] [.int (Int32.ofInt 4), .int x7] S R _
    refine u_ic_ge rfl (fun h1 => ?_) (fun h1 => ?_)
    · have hD := hD.1 h1
      show u_P L xs m d m_X10_sendFrom 185 [(0, .ref 87), (1, .ref 2), (2, .int x2), (3, .int x3), (4, .int x4), (5, .int x5), (6, .int x6), (7, .int x7)] [] S R _
      refine u_st rfl (fun _ => rfl) ?_
      refine u_st rfl (fun _ => rfl) ?_
      show u_P L xs m d m_X10_sendFrom 188 [(0, .ref 87), (1, .ref 2), (2, .int x2), (3, .int x3), (4, .int x4), (5, .int x5), (6, .int x6), (7, .int x7)] [.int (Int32.ofInt (-1)), .int x6] S R _
      refine u_ic_eq rfl (fun h2 => ?_) (fun h2 => ?_)
      · have hD := hD.1 h2
        show u_P L xs m d m_X10_sendFrom 197 [(0, .ref 87), (1, .ref 2), (2, .int x2), (3, .int x3), (4, .int x4), (5, .int x5), (6, .int x6), (7, .int x7)] [] S R _
        refine u_st rfl (fun _ => rfl) ?_
        show u_P L xs m d m_X10_sendFrom 198 [(0, .ref 87), (1, .ref 2), (2, .int x2), (3, .int x3), (4, .int x4), (5, .int x5), (6, .int x6), (7, .int x7)] [.ref 87] S R _
        refine u_getr rfl rfl rfl ?_
        refine u_st rfl (fun _ => rfl) ?_
        refine u_st rfl (fun _ => rfl) ?_
        show u_P L xs m d m_X10_sendFrom 203 [(0, .ref 87), (1, .ref 2), (2, .int x2), (3, .int x3), (4, .int x4), (5, .int x5), (6, .int x6), (7, .int x7)] [.int (Int32.ofInt 4), .int x2, .ref 93] S R _
        refine u_iast rfl rfl (fun b31 b32 => ?_)
        have hD := hD b31 b32
        show u_P L xs m d m_X10_sendFrom 204 [(0, .ref 87), (1, .ref 2), (2, .int x2), (3, .int x3), (4, .int x4), (5, .int x5), (6, .int x6), (7, .int x7)] [] (z_s S 92 x2.toInt.toNat (Int32.ofInt 4)) R _
        refine u_st rfl (fun _ => rfl) ?_
        refine u_st rfl (fun _ => rfl) ?_
        refine u_st rfl (fun _ => rfl) ?_
        refine u_st rfl (fun _ => rfl) ?_
        refine u_st rfl (fun _ => rfl) ?_
        refine u_st rfl (fun _ => rfl) ?_
        refine u_st rfl (fun _ => rfl) ?_
        show u_P L xs m d m_X10_sendFrom 212 [(0, .ref 87), (1, .ref 2), (2, .int x2), (3, .int x3), (4, .int x4), (5, .int x5), (6, .int x6), (7, .int x7)] [.int x4, .int x3, .int (x2 + (Int32.ofInt 1)), .ref 2, .ref 87] (z_s S 92 x2.toInt.toNat (Int32.ofInt 4)) R _
        refine u_cv (rest := []) rfl (by decide) mt_X10_sendFrom rfl rfl rfl rfl (Nat.le_of_ble_eq_true rfl) (Nat.le_of_ble_eq_true rfl) (Nat.le_of_ble_eq_true rfl) (fun d' => hφ m d' (x2 + (Int32.ofInt 1)) x3 x4 (z_s S 92 x2.toInt.toNat (Int32.ofInt 4)) hD.1) ?_
        rintro _ _ _ ⟨rfl, rfl, rfl⟩
        have hD := hD.2
        show u_P L xs m d m_X10_sendFrom 215 [(0, .ref 87), (1, .ref 2), (2, .int x2), (3, .int x3), (4, .int x4), (5, .int x5), (6, .int x6), (7, .int x7)] [] (φ (x2 + (Int32.ofInt 1)) x3 x4 (z_s S 92 x2.toInt.toNat (Int32.ofInt 4))) R _
        exact u_ret rfl rfl ⟨rfl, rfl, hD⟩
      · have hD := hD.2 h2
        show u_P L xs m d m_X10_sendFrom 191 [(0, .ref 87), (1, .ref 2), (2, .int x2), (3, .int x3), (4, .int x4), (5, .int x5), (6, .int x6), (7, .int x7)] [] S R _
        refine u_st rfl (fun _ => rfl) ?_
        refine u_st rfl (fun _ => rfl) ?_
        show u_P L xs m d m_X10_sendFrom 194 [(0, .ref 87), (1, .ref 2), (2, .int x2), (3, .int x3), (4, .int x4), (5, .int x5), (6, .int x6), (7, .int x7)] [.int (Int32.ofInt 4), .int x6] S R _
        refine u_ic_ne rfl (fun h4 => ?_) (fun h4 => ?_)
        · have hD := hD.1 h4
          show u_P L xs m d m_X10_sendFrom 215 [(0, .ref 87), (1, .ref 2), (2, .int x2), (3, .int x3), (4, .int x4), (5, .int x5), (6, .int x6), (7, .int x7)] [] S R _
          exact u_ret rfl rfl ⟨rfl, rfl, hD⟩
        · have hD := hD.2 h4
          show u_P L xs m d m_X10_sendFrom 197 [(0, .ref 87), (1, .ref 2), (2, .int x2), (3, .int x3), (4, .int x4), (5, .int x5), (6, .int x6), (7, .int x7)] [] S R _
          refine u_st rfl (fun _ => rfl) ?_
          show u_P L xs m d m_X10_sendFrom 198 [(0, .ref 87), (1, .ref 2), (2, .int x2), (3, .int x3), (4, .int x4), (5, .int x5), (6, .int x6), (7, .int x7)] [.ref 87] S R _
          refine u_getr rfl rfl rfl ?_
          refine u_st rfl (fun _ => rfl) ?_
          refine u_st rfl (fun _ => rfl) ?_
          show u_P L xs m d m_X10_sendFrom 203 [(0, .ref 87), (1, .ref 2), (2, .int x2), (3, .int x3), (4, .int x4), (5, .int x5), (6, .int x6), (7, .int x7)] [.int (Int32.ofInt 4), .int x2, .ref 93] S R _
          refine u_iast rfl rfl (fun b51 b52 => ?_)
          have hD := hD b51 b52
          show u_P L xs m d m_X10_sendFrom 204 [(0, .ref 87), (1, .ref 2), (2, .int x2), (3, .int x3), (4, .int x4), (5, .int x5), (6, .int x6), (7, .int x7)] [] (z_s S 92 x2.toInt.toNat (Int32.ofInt 4)) R _
          refine u_st rfl (fun _ => rfl) ?_
          refine u_st rfl (fun _ => rfl) ?_
          refine u_st rfl (fun _ => rfl) ?_
          refine u_st rfl (fun _ => rfl) ?_
          refine u_st rfl (fun _ => rfl) ?_
          refine u_st rfl (fun _ => rfl) ?_
          refine u_st rfl (fun _ => rfl) ?_
          show u_P L xs m d m_X10_sendFrom 212 [(0, .ref 87), (1, .ref 2), (2, .int x2), (3, .int x3), (4, .int x4), (5, .int x5), (6, .int x6), (7, .int x7)] [.int x4, .int x3, .int (x2 + (Int32.ofInt 1)), .ref 2, .ref 87] (z_s S 92 x2.toInt.toNat (Int32.ofInt 4)) R _
          refine u_cv (rest := []) rfl (by decide) mt_X10_sendFrom rfl rfl rfl rfl (Nat.le_of_ble_eq_true rfl) (Nat.le_of_ble_eq_true rfl) (Nat.le_of_ble_eq_true rfl) (fun d' => hφ m d' (x2 + (Int32.ofInt 1)) x3 x4 (z_s S 92 x2.toInt.toNat (Int32.ofInt 4)) hD.1) ?_
          rintro _ _ _ ⟨rfl, rfl, rfl⟩
          have hD := hD.2
          show u_P L xs m d m_X10_sendFrom 215 [(0, .ref 87), (1, .ref 2), (2, .int x2), (3, .int x3), (4, .int x4), (5, .int x5), (6, .int x6), (7, .int x7)] [] (φ (x2 + (Int32.ofInt 1)) x3 x4 (z_s S 92 x2.toInt.toNat (Int32.ofInt 4))) R _
          exact u_ret rfl rfl ⟨rfl, rfl, hD⟩
    · have hD := hD.2 h1
      show u_P L xs m d m_X10_sendFrom 102 [(0, .ref 87), (1, .ref 2), (2, .int x2), (3, .int x3), (4, .int x4), (5, .int x5), (6, .int x6), (7, .int x7)] [] S R _
      refine u_st rfl (fun _ => rfl) ?_
      refine u_st rfl (fun _ => rfl) ?_
      show u_P L xs m d m_X10_sendFrom 105 [(0, .ref 87), (1, .ref 2), (2, .int x2), (3, .int x3), (4, .int x4), (5, .int x5), (6, .int x6), (7, .int x7)] [.int (Int32.ofInt (-1)), .int x6] S R _
      refine u_ic_eq rfl (fun h6 => ?_) (fun h6 => ?_)
      · have hD := hD.1 h6
        show u_P L xs m d m_X10_sendFrom 115 [(0, .ref 87), (1, .ref 2), (2, .int x2), (3, .int x3), (4, .int x4), (5, .int x5), (6, .int x6), (7, .int x7)] [] S R _
        refine u_st rfl (fun _ => rfl) ?_
        refine u_st rfl (fun _ => rfl) ?_
        refine u_st rfl (fun _ => rfl) ?_
        refine u_st rfl (fun _ => rfl) ?_
        show u_P L xs m d m_X10_sendFrom 120 [(0, .ref 87), (1, .ref 2), (2, .int x2), (3, .int x3), (4, .int x4), (5, .int x5), (6, .int x6), (7, .int x7)] [.ref 87, .int x7, .ref 2, .ref 87] S R _
        refine u_getr rfl rfl rfl ?_
        refine u_st rfl (fun _ => rfl) ?_
        show u_P L xs m d m_X10_sendFrom 124 [(0, .ref 87), (1, .ref 2), (2, .int x2), (3, .int x3), (4, .int x4), (5, .int x5), (6, .int x6), (7, .int x7)] [.int x2, .ref 91, .int x7, .ref 2, .ref 87] S R _
        refine u_ialdE (v := S 90 x2.toInt.toNat) rfl rfl rfl (fun b71 b72 => ?_)
        have hD := hD b71 b72
        show u_P L xs m d m_X10_sendFrom 125 [(0, .ref 87), (1, .ref 2), (2, .int x2), (3, .int x3), (4, .int x4), (5, .int x5), (6, .int x6), (7, .int x7)] [.int (S 90 x2.toInt.toNat), .int x7, .ref 2, .ref 87] S R _
        refine u_cv (rest := []) rfl (by decide) mt_X10_carries rfl rfl rfl rfl (Nat.le_of_ble_eq_true rfl) (Nat.le_of_ble_eq_true rfl) (Nat.le_of_ble_eq_true rfl) (fun d' => c_X10_carries L xs m d' x7 (S 90 x2.toInt.toNat) S R) ?_
        rintro _ _ _ ⟨_, rfl, rfl, rfl, rfl⟩
        show u_P L xs m d m_X10_sendFrom 128 [(0, .ref 87), (1, .ref 2), (2, .int x2), (3, .int x3), (4, .int x4), (5, .int x5), (6, .int x6), (7, .int x7)] [.int (f_X10_carries x7 (S 90 x2.toInt.toNat) S)] S R _
        refine u_if_eq rfl (fun h8 => ?_) (fun h8 => ?_)
        · have hD := hD.1 h8
          show u_P L xs m d m_X10_sendFrom 179 [(0, .ref 87), (1, .ref 2), (2, .int x2), (3, .int x3), (4, .int x4), (5, .int x5), (6, .int x6), (7, .int x7)] [] S R _
          refine u_st rfl (fun _ => rfl) ?_
          refine u_st rfl (fun _ => rfl) ?_
          refine u_lc (b := [(0, .ref 87), (1, .ref 2), (2, .int x2), (3, .int x3), (4, .int x4), (5, .int x5), (6, .int x6), (7, .int (x7 + (Int32.ofInt 1)))]) (show ([7, 0, 1, 2, 3, 4, 5, 6] : List Nat).Nodup by decide) (show ([0, 1, 2, 3, 4, 5, 6, 7] : List Nat).Nodup by decide) (fun i => match i with | 0 => rfl | 1 => rfl | 2 => rfl | 3 => rfl | 4 => rfl | 5 => rfl | 6 => rfl | 7 => rfl | _ + 8 => rfl) ?_
          exact (ih m hm) d x2 x3 x4 x5 x6 (x7 + (Int32.ofInt 1)) S hD
        · have hD := hD.2 h8
          show u_P L xs m d m_X10_sendFrom 131 [(0, .ref 87), (1, .ref 2), (2, .int x2), (3, .int x3), (4, .int x4), (5, .int x5), (6, .int x6), (7, .int x7)] [] S R _
          refine u_st rfl (fun _ => rfl) ?_
          show u_P L xs m d m_X10_sendFrom 132 [(0, .ref 87), (1, .ref 2), (2, .int x2), (3, .int x3), (4, .int x4), (5, .int x5), (6, .int x6), (7, .int x7)] [.ref 87] S R _
          refine u_getr rfl rfl rfl ?_
          refine u_st rfl (fun _ => rfl) ?_
          refine u_st rfl (fun _ => rfl) ?_
          show u_P L xs m d m_X10_sendFrom 138 [(0, .ref 87), (1, .ref 2), (2, .int x2), (3, .int x3), (4, .int x4), (5, .int x5), (6, .int x6), (7, .int x7)] [.int x7, .int x2, .ref 93] S R _
          refine u_iast rfl rfl (fun b91 b92 => ?_)
          have hD := hD b91 b92
          show u_P L xs m d m_X10_sendFrom 139 [(0, .ref 87), (1, .ref 2), (2, .int x2), (3, .int x3), (4, .int x4), (5, .int x5), (6, .int x6), (7, .int x7)] [] (z_s S 92 x2.toInt.toNat x7) R _
          refine u_st rfl (fun _ => rfl) ?_
          show u_P L xs m d m_X10_sendFrom 140 [(0, .ref 87), (1, .ref 2), (2, .int x2), (3, .int x3), (4, .int x4), (5, .int x5), (6, .int x6), (7, .int x7)] [.ref 87] (z_s S 92 x2.toInt.toNat x7) R _
          refine u_getr rfl rfl rfl ?_
          refine u_st rfl (fun _ => rfl) ?_
          refine u_st rfl (fun _ => rfl) ?_
          show u_P L xs m d m_X10_sendFrom 146 [(0, .ref 87), (1, .ref 2), (2, .int x2), (3, .int x3), (4, .int x4), (5, .int x5), (6, .int x6), (7, .int x7)] [.int x7, .ref 90, .int x7, .ref 90] (z_s S 92 x2.toInt.toNat x7) R _
          refine u_ialdE (v := S 89 x7.toInt.toNat) rfl rfl (z_sn (fun h => absurd h.1 (by decide))) (fun b101 b102 => ?_)
          have hD := hD b101 b102
          show u_P L xs m d m_X10_sendFrom 147 [(0, .ref 87), (1, .ref 2), (2, .int x2), (3, .int x3), (4, .int x4), (5, .int x5), (6, .int x6), (7, .int x7)] [.int (S 89 x7.toInt.toNat), .int x7, .ref 90] (z_s S 92 x2.toInt.toNat x7) R _
          refine u_st rfl (fun _ => rfl) ?_
          refine u_st rfl (fun _ => rfl) ?_
          show u_P L xs m d m_X10_sendFrom 150 [(0, .ref 87), (1, .ref 2), (2, .int x2), (3, .int x3), (4, .int x4), (5, .int x5), (6, .int x6), (7, .int x7)] [.int ((S 89 x7.toInt.toNat) + x5), .int x7, .ref 90] (z_s S 92 x2.toInt.toNat x7) R _
          refine u_iast rfl rfl (fun b111 b112 => ?_)
          have hD := hD b111 b112
          show u_P L xs m d m_X10_sendFrom 151 [(0, .ref 87), (1, .ref 2), (2, .int x2), (3, .int x3), (4, .int x4), (5, .int x5), (6, .int x6), (7, .int x7)] [] (z_s (z_s S 92 x2.toInt.toNat x7) 89 x7.toInt.toNat ((S 89 x7.toInt.toNat) + x5)) R _
          refine u_st rfl (fun _ => rfl) ?_
          refine u_st rfl (fun _ => rfl) ?_
          refine u_st rfl (fun _ => rfl) ?_
          refine u_st rfl (fun _ => rfl) ?_
          refine u_st rfl (fun _ => rfl) ?_
          refine u_st rfl (fun _ => rfl) ?_
          refine u_st rfl (fun _ => rfl) ?_
          refine u_st rfl (fun _ => rfl) ?_
          refine u_st rfl (fun _ => rfl) ?_
          refine u_st rfl (fun _ => rfl) ?_
          refine u_st rfl (fun _ => rfl) ?_
          show u_P L xs m d m_X10_sendFrom 164 [(0, .ref 87), (1, .ref 2), (2, .int x2), (3, .int x3), (4, .int x4), (5, .int x5), (6, .int x6), (7, .int x7)] [.int (x4 + x5), .int (x3 + (Int32.ofInt 1)), .int (x2 + (Int32.ofInt 1)), .ref 2, .ref 87] (z_s (z_s S 92 x2.toInt.toNat x7) 89 x7.toInt.toNat ((S 89 x7.toInt.toNat) + x5)) R _
          refine u_cv (rest := []) rfl (by decide) mt_X10_sendFrom rfl rfl rfl rfl (Nat.le_of_ble_eq_true rfl) (Nat.le_of_ble_eq_true rfl) (Nat.le_of_ble_eq_true rfl) (fun d' => hφ m d' (x2 + (Int32.ofInt 1)) (x3 + (Int32.ofInt 1)) (x4 + x5) (z_s (z_s S 92 x2.toInt.toNat x7) 89 x7.toInt.toNat ((S 89 x7.toInt.toNat) + x5)) hD.1) ?_
          rintro _ _ _ ⟨rfl, rfl, rfl⟩
          have hD := hD.2
          show u_P L xs m d m_X10_sendFrom 167 [(0, .ref 87), (1, .ref 2), (2, .int x2), (3, .int x3), (4, .int x4), (5, .int x5), (6, .int x6), (7, .int x7)] [] (φ (x2 + (Int32.ofInt 1)) (x3 + (Int32.ofInt 1)) (x4 + x5) (z_s (z_s S 92 x2.toInt.toNat x7) 89 x7.toInt.toNat ((S 89 x7.toInt.toNat) + x5))) R _
          refine u_st rfl (fun _ => rfl) ?_
          show u_P L xs m d m_X10_sendFrom 168 [(0, .ref 87), (1, .ref 2), (2, .int x2), (3, .int x3), (4, .int x4), (5, .int x5), (6, .int x6), (7, .int x7)] [.ref 87] (φ (x2 + (Int32.ofInt 1)) (x3 + (Int32.ofInt 1)) (x4 + x5) (z_s (z_s S 92 x2.toInt.toNat x7) 89 x7.toInt.toNat ((S 89 x7.toInt.toNat) + x5))) R _
          refine u_getr rfl rfl rfl ?_
          refine u_st rfl (fun _ => rfl) ?_
          refine u_st rfl (fun _ => rfl) ?_
          show u_P L xs m d m_X10_sendFrom 174 [(0, .ref 87), (1, .ref 2), (2, .int x2), (3, .int x3), (4, .int x4), (5, .int x5), (6, .int x6), (7, .int x7)] [.int x7, .ref 90, .int x7, .ref 90] (φ (x2 + (Int32.ofInt 1)) (x3 + (Int32.ofInt 1)) (x4 + x5) (z_s (z_s S 92 x2.toInt.toNat x7) 89 x7.toInt.toNat ((S 89 x7.toInt.toNat) + x5))) R _
          refine u_ialdE (v := (φ (x2 + (Int32.ofInt 1)) (x3 + (Int32.ofInt 1)) (x4 + x5) (z_s (z_s S 92 x2.toInt.toNat x7) 89 x7.toInt.toNat ((S 89 x7.toInt.toNat) + x5))) 89 x7.toInt.toNat) rfl rfl rfl (fun b121 b122 => ?_)
          have hD := hD b121 b122
          show u_P L xs m d m_X10_sendFrom 175 [(0, .ref 87), (1, .ref 2), (2, .int x2), (3, .int x3), (4, .int x4), (5, .int x5), (6, .int x6), (7, .int x7)] [.int ((φ (x2 + (Int32.ofInt 1)) (x3 + (Int32.ofInt 1)) (x4 + x5) (z_s (z_s S 92 x2.toInt.toNat x7) 89 x7.toInt.toNat ((S 89 x7.toInt.toNat) + x5))) 89 x7.toInt.toNat), .int x7, .ref 90] (φ (x2 + (Int32.ofInt 1)) (x3 + (Int32.ofInt 1)) (x4 + x5) (z_s (z_s S 92 x2.toInt.toNat x7) 89 x7.toInt.toNat ((S 89 x7.toInt.toNat) + x5))) R _
          refine u_st rfl (fun _ => rfl) ?_
          refine u_st rfl (fun _ => rfl) ?_
          show u_P L xs m d m_X10_sendFrom 178 [(0, .ref 87), (1, .ref 2), (2, .int x2), (3, .int x3), (4, .int x4), (5, .int x5), (6, .int x6), (7, .int x7)] [.int (((φ (x2 + (Int32.ofInt 1)) (x3 + (Int32.ofInt 1)) (x4 + x5) (z_s (z_s S 92 x2.toInt.toNat x7) 89 x7.toInt.toNat ((S 89 x7.toInt.toNat) + x5))) 89 x7.toInt.toNat) - x5), .int x7, .ref 90] (φ (x2 + (Int32.ofInt 1)) (x3 + (Int32.ofInt 1)) (x4 + x5) (z_s (z_s S 92 x2.toInt.toNat x7) 89 x7.toInt.toNat ((S 89 x7.toInt.toNat) + x5))) R _
          refine u_iast rfl rfl (fun b131 b132 => ?_)
          have hD := hD b131 b132
          show u_P L xs m d m_X10_sendFrom 179 [(0, .ref 87), (1, .ref 2), (2, .int x2), (3, .int x3), (4, .int x4), (5, .int x5), (6, .int x6), (7, .int x7)] [] (z_s (φ (x2 + (Int32.ofInt 1)) (x3 + (Int32.ofInt 1)) (x4 + x5) (z_s (z_s S 92 x2.toInt.toNat x7) 89 x7.toInt.toNat ((S 89 x7.toInt.toNat) + x5))) 89 x7.toInt.toNat (((φ (x2 + (Int32.ofInt 1)) (x3 + (Int32.ofInt 1)) (x4 + x5) (z_s (z_s S 92 x2.toInt.toNat x7) 89 x7.toInt.toNat ((S 89 x7.toInt.toNat) + x5))) 89 x7.toInt.toNat) - x5)) R _
          refine u_st rfl (fun _ => rfl) ?_
          refine u_st rfl (fun _ => rfl) ?_
          refine u_lc (b := [(0, .ref 87), (1, .ref 2), (2, .int x2), (3, .int x3), (4, .int x4), (5, .int x5), (6, .int x6), (7, .int (x7 + (Int32.ofInt 1)))]) (show ([7, 0, 1, 2, 3, 4, 5, 6] : List Nat).Nodup by decide) (show ([0, 1, 2, 3, 4, 5, 6, 7] : List Nat).Nodup by decide) (fun i => match i with | 0 => rfl | 1 => rfl | 2 => rfl | 3 => rfl | 4 => rfl | 5 => rfl | 6 => rfl | 7 => rfl | _ + 8 => rfl) ?_
          exact (ih m hm) d x2 x3 x4 x5 x6 (x7 + (Int32.ofInt 1)) (z_s (φ (x2 + (Int32.ofInt 1)) (x3 + (Int32.ofInt 1)) (x4 + x5) (z_s (z_s S 92 x2.toInt.toNat x7) 89 x7.toInt.toNat ((S 89 x7.toInt.toNat) + x5))) 89 x7.toInt.toNat (((φ (x2 + (Int32.ofInt 1)) (x3 + (Int32.ofInt 1)) (x4 + x5) (z_s (z_s S 92 x2.toInt.toNat x7) 89 x7.toInt.toNat ((S 89 x7.toInt.toNat) + x5))) 89 x7.toInt.toNat) - x5)) hD
      · have hD := hD.2 h6
        show u_P L xs m d m_X10_sendFrom 108 [(0, .ref 87), (1, .ref 2), (2, .int x2), (3, .int x3), (4, .int x4), (5, .int x5), (6, .int x6), (7, .int x7)] [] S R _
        refine u_st rfl (fun _ => rfl) ?_
        refine u_st rfl (fun _ => rfl) ?_
        show u_P L xs m d m_X10_sendFrom 112 [(0, .ref 87), (1, .ref 2), (2, .int x2), (3, .int x3), (4, .int x4), (5, .int x5), (6, .int x6), (7, .int x7)] [.int x7, .int x6] S R _
        refine u_ic_ne rfl (fun h14 => ?_) (fun h14 => ?_)
        · have hD := hD.1 h14
          show u_P L xs m d m_X10_sendFrom 179 [(0, .ref 87), (1, .ref 2), (2, .int x2), (3, .int x3), (4, .int x4), (5, .int x5), (6, .int x6), (7, .int x7)] [] S R _
          refine u_st rfl (fun _ => rfl) ?_
          refine u_st rfl (fun _ => rfl) ?_
          refine u_lc (b := [(0, .ref 87), (1, .ref 2), (2, .int x2), (3, .int x3), (4, .int x4), (5, .int x5), (6, .int x6), (7, .int (x7 + (Int32.ofInt 1)))]) (show ([7, 0, 1, 2, 3, 4, 5, 6] : List Nat).Nodup by decide) (show ([0, 1, 2, 3, 4, 5, 6, 7] : List Nat).Nodup by decide) (fun i => match i with | 0 => rfl | 1 => rfl | 2 => rfl | 3 => rfl | 4 => rfl | 5 => rfl | 6 => rfl | 7 => rfl | _ + 8 => rfl) ?_
          exact (ih m hm) d x2 x3 x4 x5 x6 (x7 + (Int32.ofInt 1)) S hD
        · have hD := hD.2 h14
          show u_P L xs m d m_X10_sendFrom 115 [(0, .ref 87), (1, .ref 2), (2, .int x2), (3, .int x3), (4, .int x4), (5, .int x5), (6, .int x6), (7, .int x7)] [] S R _
          refine u_st rfl (fun _ => rfl) ?_
          refine u_st rfl (fun _ => rfl) ?_
          refine u_st rfl (fun _ => rfl) ?_
          refine u_st rfl (fun _ => rfl) ?_
          show u_P L xs m d m_X10_sendFrom 120 [(0, .ref 87), (1, .ref 2), (2, .int x2), (3, .int x3), (4, .int x4), (5, .int x5), (6, .int x6), (7, .int x7)] [.ref 87, .int x7, .ref 2, .ref 87] S R _
          refine u_getr rfl rfl rfl ?_
          refine u_st rfl (fun _ => rfl) ?_
          show u_P L xs m d m_X10_sendFrom 124 [(0, .ref 87), (1, .ref 2), (2, .int x2), (3, .int x3), (4, .int x4), (5, .int x5), (6, .int x6), (7, .int x7)] [.int x2, .ref 91, .int x7, .ref 2, .ref 87] S R _
          refine u_ialdE (v := S 90 x2.toInt.toNat) rfl rfl rfl (fun b151 b152 => ?_)
          have hD := hD b151 b152
          show u_P L xs m d m_X10_sendFrom 125 [(0, .ref 87), (1, .ref 2), (2, .int x2), (3, .int x3), (4, .int x4), (5, .int x5), (6, .int x6), (7, .int x7)] [.int (S 90 x2.toInt.toNat), .int x7, .ref 2, .ref 87] S R _
          refine u_cv (rest := []) rfl (by decide) mt_X10_carries rfl rfl rfl rfl (Nat.le_of_ble_eq_true rfl) (Nat.le_of_ble_eq_true rfl) (Nat.le_of_ble_eq_true rfl) (fun d' => c_X10_carries L xs m d' x7 (S 90 x2.toInt.toNat) S R) ?_
          rintro _ _ _ ⟨_, rfl, rfl, rfl, rfl⟩
          show u_P L xs m d m_X10_sendFrom 128 [(0, .ref 87), (1, .ref 2), (2, .int x2), (3, .int x3), (4, .int x4), (5, .int x5), (6, .int x6), (7, .int x7)] [.int (f_X10_carries x7 (S 90 x2.toInt.toNat) S)] S R _
          refine u_if_eq rfl (fun h16 => ?_) (fun h16 => ?_)
          · have hD := hD.1 h16
            show u_P L xs m d m_X10_sendFrom 179 [(0, .ref 87), (1, .ref 2), (2, .int x2), (3, .int x3), (4, .int x4), (5, .int x5), (6, .int x6), (7, .int x7)] [] S R _
            refine u_st rfl (fun _ => rfl) ?_
            refine u_st rfl (fun _ => rfl) ?_
            refine u_lc (b := [(0, .ref 87), (1, .ref 2), (2, .int x2), (3, .int x3), (4, .int x4), (5, .int x5), (6, .int x6), (7, .int (x7 + (Int32.ofInt 1)))]) (show ([7, 0, 1, 2, 3, 4, 5, 6] : List Nat).Nodup by decide) (show ([0, 1, 2, 3, 4, 5, 6, 7] : List Nat).Nodup by decide) (fun i => match i with | 0 => rfl | 1 => rfl | 2 => rfl | 3 => rfl | 4 => rfl | 5 => rfl | 6 => rfl | 7 => rfl | _ + 8 => rfl) ?_
            exact (ih m hm) d x2 x3 x4 x5 x6 (x7 + (Int32.ofInt 1)) S hD
          · have hD := hD.2 h16
            show u_P L xs m d m_X10_sendFrom 131 [(0, .ref 87), (1, .ref 2), (2, .int x2), (3, .int x3), (4, .int x4), (5, .int x5), (6, .int x6), (7, .int x7)] [] S R _
            refine u_st rfl (fun _ => rfl) ?_
            show u_P L xs m d m_X10_sendFrom 132 [(0, .ref 87), (1, .ref 2), (2, .int x2), (3, .int x3), (4, .int x4), (5, .int x5), (6, .int x6), (7, .int x7)] [.ref 87] S R _
            refine u_getr rfl rfl rfl ?_
            refine u_st rfl (fun _ => rfl) ?_
            refine u_st rfl (fun _ => rfl) ?_
            show u_P L xs m d m_X10_sendFrom 138 [(0, .ref 87), (1, .ref 2), (2, .int x2), (3, .int x3), (4, .int x4), (5, .int x5), (6, .int x6), (7, .int x7)] [.int x7, .int x2, .ref 93] S R _
            refine u_iast rfl rfl (fun b171 b172 => ?_)
            have hD := hD b171 b172
            show u_P L xs m d m_X10_sendFrom 139 [(0, .ref 87), (1, .ref 2), (2, .int x2), (3, .int x3), (4, .int x4), (5, .int x5), (6, .int x6), (7, .int x7)] [] (z_s S 92 x2.toInt.toNat x7) R _
            refine u_st rfl (fun _ => rfl) ?_
            show u_P L xs m d m_X10_sendFrom 140 [(0, .ref 87), (1, .ref 2), (2, .int x2), (3, .int x3), (4, .int x4), (5, .int x5), (6, .int x6), (7, .int x7)] [.ref 87] (z_s S 92 x2.toInt.toNat x7) R _
            refine u_getr rfl rfl rfl ?_
            refine u_st rfl (fun _ => rfl) ?_
            refine u_st rfl (fun _ => rfl) ?_
            show u_P L xs m d m_X10_sendFrom 146 [(0, .ref 87), (1, .ref 2), (2, .int x2), (3, .int x3), (4, .int x4), (5, .int x5), (6, .int x6), (7, .int x7)] [.int x7, .ref 90, .int x7, .ref 90] (z_s S 92 x2.toInt.toNat x7) R _
            refine u_ialdE (v := S 89 x7.toInt.toNat) rfl rfl (z_sn (fun h => absurd h.1 (by decide))) (fun b181 b182 => ?_)
            have hD := hD b181 b182
            show u_P L xs m d m_X10_sendFrom 147 [(0, .ref 87), (1, .ref 2), (2, .int x2), (3, .int x3), (4, .int x4), (5, .int x5), (6, .int x6), (7, .int x7)] [.int (S 89 x7.toInt.toNat), .int x7, .ref 90] (z_s S 92 x2.toInt.toNat x7) R _
            refine u_st rfl (fun _ => rfl) ?_
            refine u_st rfl (fun _ => rfl) ?_
            show u_P L xs m d m_X10_sendFrom 150 [(0, .ref 87), (1, .ref 2), (2, .int x2), (3, .int x3), (4, .int x4), (5, .int x5), (6, .int x6), (7, .int x7)] [.int ((S 89 x7.toInt.toNat) + x5), .int x7, .ref 90] (z_s S 92 x2.toInt.toNat x7) R _
            refine u_iast rfl rfl (fun b191 b192 => ?_)
            have hD := hD b191 b192
            show u_P L xs m d m_X10_sendFrom 151 [(0, .ref 87), (1, .ref 2), (2, .int x2), (3, .int x3), (4, .int x4), (5, .int x5), (6, .int x6), (7, .int x7)] [] (z_s (z_s S 92 x2.toInt.toNat x7) 89 x7.toInt.toNat ((S 89 x7.toInt.toNat) + x5)) R _
            refine u_st rfl (fun _ => rfl) ?_
            refine u_st rfl (fun _ => rfl) ?_
            refine u_st rfl (fun _ => rfl) ?_
            refine u_st rfl (fun _ => rfl) ?_
            refine u_st rfl (fun _ => rfl) ?_
            refine u_st rfl (fun _ => rfl) ?_
            refine u_st rfl (fun _ => rfl) ?_
            refine u_st rfl (fun _ => rfl) ?_
            refine u_st rfl (fun _ => rfl) ?_
            refine u_st rfl (fun _ => rfl) ?_
            refine u_st rfl (fun _ => rfl) ?_
            show u_P L xs m d m_X10_sendFrom 164 [(0, .ref 87), (1, .ref 2), (2, .int x2), (3, .int x3), (4, .int x4), (5, .int x5), (6, .int x6), (7, .int x7)] [.int (x4 + x5), .int (x3 + (Int32.ofInt 1)), .int (x2 + (Int32.ofInt 1)), .ref 2, .ref 87] (z_s (z_s S 92 x2.toInt.toNat x7) 89 x7.toInt.toNat ((S 89 x7.toInt.toNat) + x5)) R _
            refine u_cv (rest := []) rfl (by decide) mt_X10_sendFrom rfl rfl rfl rfl (Nat.le_of_ble_eq_true rfl) (Nat.le_of_ble_eq_true rfl) (Nat.le_of_ble_eq_true rfl) (fun d' => hφ m d' (x2 + (Int32.ofInt 1)) (x3 + (Int32.ofInt 1)) (x4 + x5) (z_s (z_s S 92 x2.toInt.toNat x7) 89 x7.toInt.toNat ((S 89 x7.toInt.toNat) + x5)) hD.1) ?_
            rintro _ _ _ ⟨rfl, rfl, rfl⟩
            have hD := hD.2
            show u_P L xs m d m_X10_sendFrom 167 [(0, .ref 87), (1, .ref 2), (2, .int x2), (3, .int x3), (4, .int x4), (5, .int x5), (6, .int x6), (7, .int x7)] [] (φ (x2 + (Int32.ofInt 1)) (x3 + (Int32.ofInt 1)) (x4 + x5) (z_s (z_s S 92 x2.toInt.toNat x7) 89 x7.toInt.toNat ((S 89 x7.toInt.toNat) + x5))) R _
            refine u_st rfl (fun _ => rfl) ?_
            show u_P L xs m d m_X10_sendFrom 168 [(0, .ref 87), (1, .ref 2), (2, .int x2), (3, .int x3), (4, .int x4), (5, .int x5), (6, .int x6), (7, .int x7)] [.ref 87] (φ (x2 + (Int32.ofInt 1)) (x3 + (Int32.ofInt 1)) (x4 + x5) (z_s (z_s S 92 x2.toInt.toNat x7) 89 x7.toInt.toNat ((S 89 x7.toInt.toNat) + x5))) R _
            refine u_getr rfl rfl rfl ?_
            refine u_st rfl (fun _ => rfl) ?_
            refine u_st rfl (fun _ => rfl) ?_
            show u_P L xs m d m_X10_sendFrom 174 [(0, .ref 87), (1, .ref 2), (2, .int x2), (3, .int x3), (4, .int x4), (5, .int x5), (6, .int x6), (7, .int x7)] [.int x7, .ref 90, .int x7, .ref 90] (φ (x2 + (Int32.ofInt 1)) (x3 + (Int32.ofInt 1)) (x4 + x5) (z_s (z_s S 92 x2.toInt.toNat x7) 89 x7.toInt.toNat ((S 89 x7.toInt.toNat) + x5))) R _
            refine u_ialdE (v := (φ (x2 + (Int32.ofInt 1)) (x3 + (Int32.ofInt 1)) (x4 + x5) (z_s (z_s S 92 x2.toInt.toNat x7) 89 x7.toInt.toNat ((S 89 x7.toInt.toNat) + x5))) 89 x7.toInt.toNat) rfl rfl rfl (fun b201 b202 => ?_)
            have hD := hD b201 b202
            show u_P L xs m d m_X10_sendFrom 175 [(0, .ref 87), (1, .ref 2), (2, .int x2), (3, .int x3), (4, .int x4), (5, .int x5), (6, .int x6), (7, .int x7)] [.int ((φ (x2 + (Int32.ofInt 1)) (x3 + (Int32.ofInt 1)) (x4 + x5) (z_s (z_s S 92 x2.toInt.toNat x7) 89 x7.toInt.toNat ((S 89 x7.toInt.toNat) + x5))) 89 x7.toInt.toNat), .int x7, .ref 90] (φ (x2 + (Int32.ofInt 1)) (x3 + (Int32.ofInt 1)) (x4 + x5) (z_s (z_s S 92 x2.toInt.toNat x7) 89 x7.toInt.toNat ((S 89 x7.toInt.toNat) + x5))) R _
            refine u_st rfl (fun _ => rfl) ?_
            refine u_st rfl (fun _ => rfl) ?_
            show u_P L xs m d m_X10_sendFrom 178 [(0, .ref 87), (1, .ref 2), (2, .int x2), (3, .int x3), (4, .int x4), (5, .int x5), (6, .int x6), (7, .int x7)] [.int (((φ (x2 + (Int32.ofInt 1)) (x3 + (Int32.ofInt 1)) (x4 + x5) (z_s (z_s S 92 x2.toInt.toNat x7) 89 x7.toInt.toNat ((S 89 x7.toInt.toNat) + x5))) 89 x7.toInt.toNat) - x5), .int x7, .ref 90] (φ (x2 + (Int32.ofInt 1)) (x3 + (Int32.ofInt 1)) (x4 + x5) (z_s (z_s S 92 x2.toInt.toNat x7) 89 x7.toInt.toNat ((S 89 x7.toInt.toNat) + x5))) R _
            refine u_iast rfl rfl (fun b211 b212 => ?_)
            have hD := hD b211 b212
            show u_P L xs m d m_X10_sendFrom 179 [(0, .ref 87), (1, .ref 2), (2, .int x2), (3, .int x3), (4, .int x4), (5, .int x5), (6, .int x6), (7, .int x7)] [] (z_s (φ (x2 + (Int32.ofInt 1)) (x3 + (Int32.ofInt 1)) (x4 + x5) (z_s (z_s S 92 x2.toInt.toNat x7) 89 x7.toInt.toNat ((S 89 x7.toInt.toNat) + x5))) 89 x7.toInt.toNat (((φ (x2 + (Int32.ofInt 1)) (x3 + (Int32.ofInt 1)) (x4 + x5) (z_s (z_s S 92 x2.toInt.toNat x7) 89 x7.toInt.toNat ((S 89 x7.toInt.toNat) + x5))) 89 x7.toInt.toNat) - x5)) R _
            refine u_st rfl (fun _ => rfl) ?_
            refine u_st rfl (fun _ => rfl) ?_
            refine u_lc (b := [(0, .ref 87), (1, .ref 2), (2, .int x2), (3, .int x3), (4, .int x4), (5, .int x5), (6, .int x6), (7, .int (x7 + (Int32.ofInt 1)))]) (show ([7, 0, 1, 2, 3, 4, 5, 6] : List Nat).Nodup by decide) (show ([0, 1, 2, 3, 4, 5, 6, 7] : List Nat).Nodup by decide) (fun i => match i with | 0 => rfl | 1 => rfl | 2 => rfl | 3 => rfl | 4 => rfl | 5 => rfl | 6 => rfl | 7 => rfl | _ + 8 => rfl) ?_
            exact (ih m hm) d x2 x3 x4 x5 x6 (x7 + (Int32.ofInt 1)) (z_s (φ (x2 + (Int32.ofInt 1)) (x3 + (Int32.ofInt 1)) (x4 + x5) (z_s (z_s S 92 x2.toInt.toNat x7) 89 x7.toInt.toNat ((S 89 x7.toInt.toNat) + x5))) 89 x7.toInt.toNat (((φ (x2 + (Int32.ofInt 1)) (x3 + (Int32.ofInt 1)) (x4 + x5) (z_s (z_s S 92 x2.toInt.toNat x7) 89 x7.toInt.toNat ((S 89 x7.toInt.toNat) + x5))) 89 x7.toInt.toNat) - x5)) hD
set_option maxRecDepth 4000 in
theorem w_sendFromF (L : Nat) (xs : Nat → Int32) {R : v_Rf} (pr : Int32 → Prop) (φ : Int32 → Int32 → Int32 → v_Sf → v_Sf) (hφ : ∀ (n d : Nat) (i go w : Int32) (S : v_Sf), pr i → u_P L xs n d m_X10_sendFrom 0 (lv_args 0 [.ref 87, .ref 2, .int i, .int go, .int w]) [] S R (z_V R (fun S1 => φ i go w S = S1))) (i : Int32) (g : Int32) (w : Int32) (H96 : Int32 → Int32 → Int32 → Int32 → Int32 → Int32 → v_Sf → Prop) (K : v_Sf → Prop) (k96 : ∀ (x2 : Int32) (x3 : Int32) (x4 : Int32) (x5 : Int32) (x6 : Int32) (x7 : Int32) (S : v_Sf), H96 x2 x3 x4 x5 x6 x7 S → D_sendFromF_96 pr φ H96 K x2 x3 x4 x5 x6 x7 S) (n d : Nat) (S : v_Sf) (hD : D_sendFromF pr φ i g w H96 K S) : u_P L xs n d m_X10_sendFrom 0 (lv_args 0 [.ref 87, .ref 2, .int i, .int g, .int w]) [] S R (z_V R K) := by
  unfold D_sendFromF at hD
  show u_P L xs n d m_X10_sendFrom 0 [(0, .ref 87), (1, .ref 2), (2, .int i), (3, .int g), (4, .int w)] [] S R _
  refine u_st rfl (fun _ => rfl) ?_
  refine u_st rfl (fun _ => rfl) ?_
  show u_P L xs n d m_X10_sendFrom 3 [(0, .ref 87), (1, .ref 2), (2, .int i), (3, .int g), (4, .int w)] [.int (Int32.ofInt 6), .int i] S R _
  refine u_ic_gt rfl (fun h1 => ?_) (fun h1 => ?_)
  · have hD := hD.1 h1
    show u_P L xs n d m_X10_sendFrom 30 [(0, .ref 87), (1, .ref 2), (2, .int i), (3, .int g), (4, .int w)] [] S R _
    exact u_ret rfl rfl ⟨rfl, rfl, hD⟩
  · have hD := hD.2 h1
    show u_P L xs n d m_X10_sendFrom 6 [(0, .ref 87), (1, .ref 2), (2, .int i), (3, .int g), (4, .int w)] [] S R _
    refine u_st rfl (fun _ => rfl) ?_
    refine u_st rfl (fun _ => rfl) ?_
    refine u_st rfl (fun _ => rfl) ?_
    show u_P L xs n d m_X10_sendFrom 9 [(0, .ref 87), (1, .ref 2), (2, .int i), (3, .int g), (4, .int w)] [.ref 87, .int g, .ref 87] S R _
    refine u_getE (v := S 86 5) rfl rfl rfl rfl ?_
    refine u_st rfl (fun _ => rfl) ?_
    refine u_st rfl (fun _ => rfl) ?_
    refine u_st rfl (fun _ => rfl) ?_
    refine u_st rfl (fun _ => rfl) ?_
    refine u_st rfl (fun _ => rfl) ?_
    show u_P L xs n d m_X10_sendFrom 18 [(0, .ref 87), (1, .ref 2), (2, .int i), (3, .int g), (4, .int w)] [.ref 87, .int w, .int ((g + (S 86 5)) - i), .ref 87] S R _
    refine u_getr rfl rfl rfl ?_
    refine u_st rfl (fun _ => rfl) ?_
    show u_P L xs n d m_X10_sendFrom 22 [(0, .ref 87), (1, .ref 2), (2, .int i), (3, .int g), (4, .int w)] [.int i, .ref 92, .int w, .int ((g + (S 86 5)) - i), .ref 87] S R _
    refine u_ialdE (v := S 91 i.toInt.toNat) rfl rfl rfl (fun b21 b22 => ?_)
    have hD := hD b21 b22
    show u_P L xs n d m_X10_sendFrom 23 [(0, .ref 87), (1, .ref 2), (2, .int i), (3, .int g), (4, .int w)] [.int (S 91 i.toInt.toNat), .int w, .int ((g + (S 86 5)) - i), .ref 87] S R _
    refine u_st rfl (fun _ => rfl) ?_
    show u_P L xs n d m_X10_sendFrom 24 [(0, .ref 87), (1, .ref 2), (2, .int i), (3, .int g), (4, .int w)] [.int (w + (S 91 i.toInt.toNat)), .int ((g + (S 86 5)) - i), .ref 87] S R _
    refine u_cv (rest := []) rfl (by decide) mt_X10_mayBeat rfl rfl rfl rfl (Nat.le_of_ble_eq_true rfl) (Nat.le_of_ble_eq_true rfl) (Nat.le_of_ble_eq_true rfl) (fun d' => c_X10_mayBeat L xs n d' ((g + (S 86 5)) - i) (w + (S 91 i.toInt.toNat)) S R) ?_
    rintro _ _ _ ⟨_, rfl, rfl, rfl, rfl⟩
    show u_P L xs n d m_X10_sendFrom 27 [(0, .ref 87), (1, .ref 2), (2, .int i), (3, .int g), (4, .int w)] [.int (f_X10_mayBeat ((g + (S 86 5)) - i) (w + (S 91 i.toInt.toNat)) S)] S R _
    refine u_if_ne rfl (fun h3 => ?_) (fun h3 => ?_)
    · have hD := hD.1 h3
      show u_P L xs n d m_X10_sendFrom 31 [(0, .ref 87), (1, .ref 2), (2, .int i), (3, .int g), (4, .int w)] [] S R _
      refine u_st rfl (fun _ => rfl) ?_
      refine u_st rfl (fun _ => rfl) ?_
      show u_P L xs n d m_X10_sendFrom 33 [(0, .ref 87), (1, .ref 2), (2, .int i), (3, .int g), (4, .int w)] [.ref 87, .int i] S R _
      refine u_getE (v := S 86 5) rfl rfl rfl rfl ?_
      show u_P L xs n d m_X10_sendFrom 36 [(0, .ref 87), (1, .ref 2), (2, .int i), (3, .int g), (4, .int w)] [.int (S 86 5), .int i] S R _
      refine u_ic_ge rfl (fun h4 => ?_) (fun h4 => ?_)
      · have hD := hD.1 h4
        show u_P L xs n d m_X10_sendFrom 45 [(0, .ref 87), (1, .ref 2), (2, .int i), (3, .int g), (4, .int w)] [] S R _
        refine u_st rfl (fun _ => rfl) ?_
        refine u_st rfl (fun _ => rfl) ?_
        show u_P L xs n d m_X10_sendFrom 47 [(0, .ref 87), (1, .ref 2), (2, .int i), (3, .int g), (4, .int w)] [.int g, .ref 87] S R _
        refine u_put rfl rfl rfl ?_
        refine u_st rfl (fun _ => rfl) ?_
        refine u_st rfl (fun _ => rfl) ?_
        show u_P L xs n d m_X10_sendFrom 53 [(0, .ref 87), (1, .ref 2), (2, .int i), (3, .int g), (4, .int w)] [.int w, .ref 87] (z_s S 86 9 g) R _
        refine u_put rfl rfl rfl ?_
        refine u_st rfl (fun _ => rfl) ?_
        show u_P L xs n d m_X10_sendFrom 57 [(0, .ref 87), (1, .ref 2), (2, .int i), (3, .int g), (4, .int w)] [.ref 87] (z_s (z_s S 86 9 g) 86 10 w) R _
        refine u_getr rfl rfl rfl ?_
        refine u_st rfl (fun _ => rfl) ?_
        refine u_st rfl (fun _ => rfl) ?_
        show u_P L xs n d m_X10_sendFrom 62 [(0, .ref 87), (1, .ref 2), (2, .int i), (3, .int g), (4, .int w)] [.ref 87, .int (Int32.ofInt 0), .ref 93] (z_s (z_s S 86 9 g) 86 10 w) R _
        refine u_getr rfl rfl rfl ?_
        refine u_st rfl (fun _ => rfl) ?_
        refine u_st rfl (fun _ => rfl) ?_
        show u_P L xs n d m_X10_sendFrom 68 [(0, .ref 87), (1, .ref 2), (2, .int i), (3, .int g), (4, .int w)] [.int (Int32.ofInt 6), .int (Int32.ofInt 0), .ref 94, .int (Int32.ofInt 0), .ref 93] (z_s (z_s S 86 9 g) 86 10 w) R _
        refine u_cp rfl rfl rfl (fun b51 b52 b53 => ?_)
        show u_P L xs n d m_X10_sendFrom 71 [(0, .ref 87), (1, .ref 2), (2, .int i), (3, .int g), (4, .int w)] [] (z_cp (z_s (z_s S 86 9 g) 86 10 w) 92 93 (Int32.ofInt 6)) R _
        exact u_ret rfl rfl ⟨rfl, rfl, hD⟩
      · have hD := hD.2 h4
        show u_P L xs n d m_X10_sendFrom 39 [(0, .ref 87), (1, .ref 2), (2, .int i), (3, .int g), (4, .int w)] [] S R _
        refine u_st rfl (fun _ => rfl) ?_
        refine u_st rfl (fun _ => rfl) ?_
        show u_P L xs n d m_X10_sendFrom 42 [(0, .ref 87), (1, .ref 2), (2, .int i), (3, .int g), (4, .int w)] [.int (Int32.ofInt 6), .int i] S R _
        refine u_ic_lt rfl (fun h6 => ?_) (fun h6 => ?_)
        · have hD := hD.1 h6
          show u_P L xs n d m_X10_sendFrom 72 [(0, .ref 87), (1, .ref 2), (2, .int i), (3, .int g), (4, .int w)] [] S R _
          refine u_st rfl (fun _ => rfl) ?_
          show u_P L xs n d m_X10_sendFrom 73 [(0, .ref 87), (1, .ref 2), (2, .int i), (3, .int g), (4, .int w)] [.ref 2] S R _
          refine u_getr rfl rfl rfl ?_
          refine u_st rfl (fun _ => rfl) ?_
          show u_P L xs n d m_X10_sendFrom 77 [(0, .ref 87), (1, .ref 2), (2, .int i), (3, .int g), (4, .int w)] [.ref 87, .ref 3] S R _
          refine u_getr rfl rfl rfl ?_
          refine u_st rfl (fun _ => rfl) ?_
          show u_P L xs n d m_X10_sendFrom 81 [(0, .ref 87), (1, .ref 2), (2, .int i), (3, .int g), (4, .int w)] [.int i, .ref 91, .ref 3] S R _
          refine u_ialdE (v := S 90 i.toInt.toNat) rfl rfl rfl (fun b71 b72 => ?_)
          have hD := hD b71 b72
          show u_P L xs n d m_X10_sendFrom 82 [(0, .ref 87), (1, .ref 2), (2, .int i), (3, .int g), (4, .int w)] [.int (S 90 i.toInt.toNat), .ref 3] S R _
          refine u_ialdE (v := S 2 ((S 90 i.toInt.toNat).toInt.toNat)) rfl rfl rfl (fun b81 b82 => ?_)
          have hD := hD b81 b82
          show u_P L xs n d m_X10_sendFrom 83 [(0, .ref 87), (1, .ref 2), (2, .int i), (3, .int g), (4, .int w)] [.int (S 2 ((S 90 i.toInt.toNat).toInt.toNat))] S R _
          refine u_st rfl (fun _ => rfl) ?_
          refine u_st rfl (fun _ => rfl) ?_
          refine u_st rfl (fun _ => rfl) ?_
          refine u_st rfl (fun _ => rfl) ?_
          show u_P L xs n d m_X10_sendFrom 88 [(5, .int (S 2 ((S 90 i.toInt.toNat).toInt.toNat))), (0, .ref 87), (1, .ref 2), (2, .int i), (3, .int g), (4, .int w)] [.int i, .ref 2, .ref 87] S R _
          refine u_cv (rest := []) rfl (by decide) mt_X10_windOfGale rfl rfl rfl rfl (Nat.le_of_ble_eq_true rfl) (Nat.le_of_ble_eq_true rfl) (Nat.le_of_ble_eq_true rfl) (fun d' => c_X10_windOfGale L xs n d' i S R) ?_
          rintro _ _ _ ⟨_, rfl, rfl, rfl, rfl⟩
          refine u_st rfl (fun _ => rfl) ?_
          refine u_st rfl (fun _ => rfl) ?_
          refine u_st rfl (fun _ => rfl) ?_
          refine u_lc (b := [(0, .ref 87), (1, .ref 2), (2, .int i), (3, .int g), (4, .int w), (5, .int (S 2 ((S 90 i.toInt.toNat).toInt.toNat))), (6, .int (f_X10_windOfGale i S)), (7, .int (Int32.ofInt 0))]) (show ([7, 6, 5, 0, 1, 2, 3, 4] : List Nat).Nodup by decide) (show ([0, 1, 2, 3, 4, 5, 6, 7] : List Nat).Nodup by decide) (fun i => match i with | 0 => rfl | 1 => rfl | 2 => rfl | 3 => rfl | 4 => rfl | 5 => rfl | 6 => rfl | 7 => rfl | _ + 8 => rfl) ?_
          exact (hd_sendFromF L xs pr φ hφ i g w H96 K k96 n) d i g w (S 2 ((S 90 i.toInt.toNat).toInt.toNat)) (f_X10_windOfGale i S) (Int32.ofInt 0) S hD
        · have hD := hD.2 h6
          show u_P L xs n d m_X10_sendFrom 45 [(0, .ref 87), (1, .ref 2), (2, .int i), (3, .int g), (4, .int w)] [] S R _
          refine u_st rfl (fun _ => rfl) ?_
          refine u_st rfl (fun _ => rfl) ?_
          show u_P L xs n d m_X10_sendFrom 47 [(0, .ref 87), (1, .ref 2), (2, .int i), (3, .int g), (4, .int w)] [.int g, .ref 87] S R _
          refine u_put rfl rfl rfl ?_
          refine u_st rfl (fun _ => rfl) ?_
          refine u_st rfl (fun _ => rfl) ?_
          show u_P L xs n d m_X10_sendFrom 53 [(0, .ref 87), (1, .ref 2), (2, .int i), (3, .int g), (4, .int w)] [.int w, .ref 87] (z_s S 86 9 g) R _
          refine u_put rfl rfl rfl ?_
          refine u_st rfl (fun _ => rfl) ?_
          show u_P L xs n d m_X10_sendFrom 57 [(0, .ref 87), (1, .ref 2), (2, .int i), (3, .int g), (4, .int w)] [.ref 87] (z_s (z_s S 86 9 g) 86 10 w) R _
          refine u_getr rfl rfl rfl ?_
          refine u_st rfl (fun _ => rfl) ?_
          refine u_st rfl (fun _ => rfl) ?_
          show u_P L xs n d m_X10_sendFrom 62 [(0, .ref 87), (1, .ref 2), (2, .int i), (3, .int g), (4, .int w)] [.ref 87, .int (Int32.ofInt 0), .ref 93] (z_s (z_s S 86 9 g) 86 10 w) R _
          refine u_getr rfl rfl rfl ?_
          refine u_st rfl (fun _ => rfl) ?_
          refine u_st rfl (fun _ => rfl) ?_
          show u_P L xs n d m_X10_sendFrom 68 [(0, .ref 87), (1, .ref 2), (2, .int i), (3, .int g), (4, .int w)] [.int (Int32.ofInt 6), .int (Int32.ofInt 0), .ref 94, .int (Int32.ofInt 0), .ref 93] (z_s (z_s S 86 9 g) 86 10 w) R _
          refine u_cp rfl rfl rfl (fun b91 b92 b93 => ?_)
          show u_P L xs n d m_X10_sendFrom 71 [(0, .ref 87), (1, .ref 2), (2, .int i), (3, .int g), (4, .int w)] [] (z_cp (z_s (z_s S 86 9 g) 86 10 w) 92 93 (Int32.ofInt 6)) R _
          exact u_ret rfl rfl ⟨rfl, rfl, hD⟩
    · have hD := hD.2 h3
      show u_P L xs n d m_X10_sendFrom 30 [(0, .ref 87), (1, .ref 2), (2, .int i), (3, .int g), (4, .int w)] [] S R _
      exact u_ret rfl rfl ⟨rfl, rfl, hD⟩
noncomputable def r_sendFromF_96 (φ : Int32 → Int32 → Int32 → v_Sf → v_Sf) (x2 : Int32) (x3 : Int32) (x4 : Int32) (x5 : Int32) (x6 : Int32) : Nat → Nat → v_Sf → v_Sf
  | 0, k96, S => (if x6 = (Int32.ofInt (-1)) then φ (x2 + (Int32.ofInt 1)) x3 x4 (z_s S 92 x2.toInt.toNat (Int32.ofInt 4)) else (if ¬ x6 = (Int32.ofInt 4) then S else φ (x2 + (Int32.ofInt 1)) x3 x4 (z_s S 92 x2.toInt.toNat (Int32.ofInt 4))))
  | r + 1, k96, S => (if x6 = (Int32.ofInt (-1)) then (if (f_X10_carries (z_i k96) (S 90 x2.toInt.toNat) S) = 0 then r_sendFromF_96 φ x2 x3 x4 x5 x6 r (k96 + 1) S else r_sendFromF_96 φ x2 x3 x4 x5 x6 r (k96 + 1) (z_s (φ (x2 + (Int32.ofInt 1)) (x3 + (Int32.ofInt 1)) (x4 + x5) (z_s (z_s S 92 x2.toInt.toNat (z_i k96)) 89 (z_i k96).toInt.toNat ((S 89 (z_i k96).toInt.toNat) + x5))) 89 (z_i k96).toInt.toNat (((φ (x2 + (Int32.ofInt 1)) (x3 + (Int32.ofInt 1)) (x4 + x5) (z_s (z_s S 92 x2.toInt.toNat (z_i k96)) 89 (z_i k96).toInt.toNat ((S 89 (z_i k96).toInt.toNat) + x5))) 89 (z_i k96).toInt.toNat) - x5))) else (if ¬ x6 = (z_i k96) then r_sendFromF_96 φ x2 x3 x4 x5 x6 r (k96 + 1) S else (if (f_X10_carries (z_i k96) (S 90 x2.toInt.toNat) S) = 0 then r_sendFromF_96 φ x2 x3 x4 x5 x6 r (k96 + 1) S else r_sendFromF_96 φ x2 x3 x4 x5 x6 r (k96 + 1) (z_s (φ (x2 + (Int32.ofInt 1)) (x3 + (Int32.ofInt 1)) (x4 + x5) (z_s (z_s S 92 x2.toInt.toNat (z_i k96)) 89 (z_i k96).toInt.toNat ((S 89 (z_i k96).toInt.toNat) + x5))) 89 (z_i k96).toInt.toNat (((φ (x2 + (Int32.ofInt 1)) (x3 + (Int32.ofInt 1)) (x4 + x5) (z_s (z_s S 92 x2.toInt.toNat (z_i k96)) 89 (z_i k96).toInt.toNat ((S 89 (z_i k96).toInt.toNat) + x5))) 89 (z_i k96).toInt.toNat) - x5)))))
noncomputable def F_sendFromF (φ : Int32 → Int32 → Int32 → v_Sf → v_Sf) (i : Int32) (g : Int32) (w : Int32) (S : v_Sf) : v_Sf := (if (Int32.ofInt 6) < i then S else (if ¬ (f_X10_mayBeat ((g + (S 86 5)) - i) (w + (S 91 i.toInt.toNat)) S) = 0 then (if (S 86 5) ≤ i then z_cp (z_s (z_s S 86 9 g) 86 10 w) 92 93 (Int32.ofInt 6) else (if i < (Int32.ofInt 6) then r_sendFromF_96 φ i g w (S 2 ((S 90 i.toInt.toNat).toInt.toNat)) (f_X10_windOfGale i S) (4 - 0) 0 S else z_cp (z_s (z_s S 86 9 g) 86 10 w) 92 93 (Int32.ofInt 6))) else S))
noncomputable def g_sendFromF (φ : Int32 → Int32 → Int32 → v_Sf → v_Sf) (i : Int32) (g : Int32) (w : Int32) (S : v_Sf) : v_Sf := F_sendFromF φ i g w S
theorem c_sendFromF (L : Nat) (xs : Nat → Int32) (n d : Nat) {R : v_Rf} (pr : Int32 → Prop) (φ : Int32 → Int32 → Int32 → v_Sf → v_Sf) (hφ : ∀ (n d : Nat) (i go w : Int32) (S : v_Sf), pr i → u_P L xs n d m_X10_sendFrom 0 (lv_args 0 [.ref 87, .ref 2, .int i, .int go, .int w]) [] S R (z_V R (fun S1 => φ i go w S = S1))) (i : Int32) (g : Int32) (w : Int32) (hs : (¬ (Int32.ofInt 6) < i) → pr (i + (Int32.ofInt 1))) (S : v_Sf) : u_P L xs n d m_X10_sendFrom 0 (lv_args 0 [.ref 87, .ref 2, .int i, .int g, .int w]) [] S R (z_V R (fun S1 => g_sendFromF φ i g w S = S1)) := by
  refine w_sendFromF L xs pr φ hφ i g w (fun y2 y3 y4 y5 y6 y7 T => ∃ (k96 : Nat), k96 ≤ 4 ∧ z_i k96 = y7 ∧ i = y2 ∧ g = y3 ∧ w = y4 ∧ S 2 ((S 90 i.toInt.toNat).toInt.toNat) = y5 ∧ f_X10_windOfGale i S = y6 ∧ (¬ (Int32.ofInt 6) < i) ∧ r_sendFromF_96 φ i g w (S 2 ((S 90 i.toInt.toNat).toInt.toNat)) (f_X10_windOfGale i S) (4 - k96) k96 T = F_sendFromF φ i g w S) (fun S1 => g_sendFromF φ i g w S = S1) ?_ n d S ?_
  · rintro _ _ _ _ _ _ S1 ⟨k96, hkk, rfl, rfl, rfl, rfl, rfl, rfl, hx0, e⟩
    unfold D_sendFromF_96
    rcases Nat.lt_or_ge k96 (4) with hk | hk
    · rw [show 4 - k96 = (4 - (k96 + 1)) + 1 by omega, r_sendFromF_96] at e
      refine ⟨fun q1 => ?_, fun q1 => ?_⟩
      · exact absurd hk (Nat.not_lt.mpr (z_leB2 (B := 4) q1 (by decide) (by omega)))
      · refine ⟨fun q2 => ?_, fun q2 => ?_⟩
        · intro _ _
          refine ⟨fun q3 => ?_, fun q3 => ?_⟩
          · rw [if_pos q2, if_pos q3] at e
            exact ⟨(k96 + 1), by omega, (z_i1 k96).symm, rfl, rfl, rfl, rfl, rfl, by assumption, e⟩
          · intro _ _
            intro _ _
            intro _ _
            refine ⟨hs (by assumption), ?_⟩
            intro _ _
            intro _ _
            rw [if_pos q2, if_neg q3] at e
            exact ⟨(k96 + 1), by omega, (z_i1 k96).symm, rfl, rfl, rfl, rfl, rfl, by assumption, e⟩
        · refine ⟨fun q4 => ?_, fun q4 => ?_⟩
          · rw [if_neg q2, if_pos q4] at e
            exact ⟨(k96 + 1), by omega, (z_i1 k96).symm, rfl, rfl, rfl, rfl, rfl, by assumption, e⟩
          · intro _ _
            refine ⟨fun q5 => ?_, fun q5 => ?_⟩
            · rw [if_neg q2, if_neg q4, if_pos q5] at e
              exact ⟨(k96 + 1), by omega, (z_i1 k96).symm, rfl, rfl, rfl, rfl, rfl, by assumption, e⟩
            · intro _ _
              intro _ _
              intro _ _
              refine ⟨hs (by assumption), ?_⟩
              intro _ _
              intro _ _
              rw [if_neg q2, if_neg q4, if_neg q5] at e
              exact ⟨(k96 + 1), by omega, (z_i1 k96).symm, rfl, rfl, rfl, rfl, rfl, by assumption, e⟩
    · rw [show 4 - k96 = 0 by omega, r_sendFromF_96] at e
      refine ⟨fun q6 => ?_, fun q6 => ?_⟩
      · refine ⟨fun q7 => ?_, fun q7 => ?_⟩
        · intro _ _
          refine ⟨hs (by assumption), ?_⟩
          rw [if_pos q7] at e
          exact e.symm
        · refine ⟨fun q8 => ?_, fun q8 => ?_⟩
          · rw [if_neg q7, if_pos q8] at e
            exact e.symm
          · intro _ _
            refine ⟨hs (by assumption), ?_⟩
            rw [if_neg q7, if_neg q8] at e
            exact e.symm
      · exact absurd hk (Nat.not_le.mpr (z_ltB2 (B := 4) q6 (by decide) (by omega)))
  · unfold D_sendFromF
    refine ⟨fun q9 => ?_, fun q9 => ?_⟩
    · have e : S = F_sendFromF φ i g w S := by rw [F_sendFromF, if_pos q9]
      exact e.symm
    · intro _ _
      refine ⟨fun q10 => ?_, fun q10 => ?_⟩
      · refine ⟨fun q11 => ?_, fun q11 => ?_⟩
        · have e : z_cp (z_s (z_s S 86 9 g) 86 10 w) 92 93 (Int32.ofInt 6) = F_sendFromF φ i g w S := by rw [F_sendFromF, if_neg q9, if_pos q10, if_pos q11]
          exact e.symm
        · refine ⟨fun q12 => ?_, fun q12 => ?_⟩
          · intro _ _
            intro _ _
            have e : r_sendFromF_96 φ i g w (S 2 ((S 90 i.toInt.toNat).toInt.toNat)) (f_X10_windOfGale i S) (4 - 0) 0 S = F_sendFromF φ i g w S := by rw [F_sendFromF, if_neg q9, if_pos q10, if_neg q11, if_pos q12]
            exact ⟨0, by omega, rfl, rfl, rfl, rfl, rfl, rfl, by assumption, e⟩
          · have e : z_cp (z_s (z_s S 86 9 g) 86 10 w) 92 93 (Int32.ofInt 6) = F_sendFromF φ i g w S := by rw [F_sendFromF, if_neg q9, if_pos q10, if_neg q11, if_neg q12]
            exact e.symm
      · have e : S = F_sendFromF φ i g w S := by rw [F_sendFromF, if_neg q9, if_neg q10]
        exact e.symm
end PrtS42n_w2
section PrtS42n_w3
noncomputable def D_X12_takesSome_4  (H4 : Int32 → Int32 → Int32 → v_Sf → Prop) (K : Int32 → v_Sf → Prop) (x1 : Int32) (x2 : Int32) (x3 : Int32) (S : v_Sf) : Prop := (((Int32.ofInt 12) ≤ x3 → K x2 S) ∧ (¬ ((Int32.ofInt 12) ≤ x3) → (((¬ (f_X12_has x1 x3) = 0) → (0 ≤ x2.toInt → x2.toInt < 12 → H4 x1 (x2 + (Int32.ofInt 1)) (x3 + (Int32.ofInt 1)) (z_s S 152 x2.toInt.toNat x3))) ∧ (¬ (¬ (f_X12_has x1 x3) = 0) → H4 x1 x2 (x3 + (Int32.ofInt 1)) S))))
noncomputable def D_X12_takesSome (a : Int32) (H4 : Int32 → Int32 → Int32 → v_Sf → Prop) (K : Int32 → v_Sf → Prop) (S : v_Sf) : Prop := H4 a (Int32.ofInt 0) (Int32.ofInt 0) S
set_option maxRecDepth 4000 in
theorem hd_X12_takesSome (L : Nat) (xs : Nat → Int32) {R : v_Rf} (a : Int32) (H4 : Int32 → Int32 → Int32 → v_Sf → Prop) (K : Int32 → v_Sf → Prop) (k4 : ∀ (x1 : Int32) (x2 : Int32) (x3 : Int32) (S : v_Sf), H4 x1 x2 x3 S → D_X12_takesSome_4 H4 K x1 x2 x3 S) : ∀ n, (∀ (d : Nat) (x1 : Int32) (x2 : Int32) (x3 : Int32) (S : v_Sf), H4 x1 x2 x3 S → u_P L xs n d m_X12_takesSome 4 [(0, .ref 100), (1, .int x1), (2, .int x2), (3, .int x3)] [] S R (z_Q R K)) := by
  intro n
  induction n using Nat.strongRecOn with
  | ind n ih =>
    intro d x1 x2 x3 S hD
    have hD := k4 x1 x2 x3 S hD
    unfold D_X12_takesSome_4 at hD
    show u_P L xs n d m_X12_takesSome 4 [(0, .ref 100), (1, .int x1), (2, .int x2), (3, .int x3)] [] S R _
    refine u_st1 rfl (fun _ => rfl) (fun m hm => ?_)
    refine u_st rfl (fun _ => rfl) ?_
    show u_P L xs m d m_X12_takesSome 7 [(0, .ref 100), (1, .int x1), (2, .int x2), (3, .int x3)] [.int (Int32.ofInt 12), .int x3] S R _
    refine u_ic_ge rfl (fun h1 => ?_) (fun h1 => ?_)
    · have hD := hD.1 h1
      show u_P L xs m d m_X12_takesSome 37 [(0, .ref 100), (1, .int x1), (2, .int x2), (3, .int x3)] [] S R _
      refine u_st rfl (fun _ => rfl) ?_
      show u_P L xs m d m_X12_takesSome 38 [(0, .ref 100), (1, .int x1), (2, .int x2), (3, .int x3)] [.int x2] S R _
      exact u_ret rfl rfl ⟨_, rfl, rfl, hD⟩
    · have hD := hD.2 h1
      show u_P L xs m d m_X12_takesSome 10 [(0, .ref 100), (1, .int x1), (2, .int x2), (3, .int x3)] [] S R _
      refine u_st rfl (fun _ => rfl) ?_
      refine u_st rfl (fun _ => rfl) ?_
      show u_P L xs m d m_X12_takesSome 12 [(0, .ref 100), (1, .int x1), (2, .int x2), (3, .int x3)] [.int x3, .int x1] S R _
      refine u_cs (ac := [.int x1, .int x3]) (rest := []) rfl (by decide) mt_X12_has (fun _ => rfl) (Nat.le_of_ble_eq_true rfl) (Nat.le_of_ble_eq_true rfl) (fun d' => c_X12_has L xs m d' x1 x3 S R) ?_
      rintro _ _ _ ⟨_, rfl, rfl, rfl, rfl⟩
      show u_P L xs m d m_X12_takesSome 15 [(0, .ref 100), (1, .int x1), (2, .int x2), (3, .int x3)] [.int (f_X12_has x1 x3)] S R _
      refine u_if_ne rfl (fun h2 => ?_) (fun h2 => ?_)
      · have hD := hD.1 h2
        show u_P L xs m d m_X12_takesSome 21 [(0, .ref 100), (1, .int x1), (2, .int x2), (3, .int x3)] [] S R _
        refine u_st rfl (fun _ => rfl) ?_
        show u_P L xs m d m_X12_takesSome 22 [(0, .ref 100), (1, .int x1), (2, .int x2), (3, .int x3)] [.ref 100] S R _
        refine u_getr rfl v_tyM rfl ?_
        refine u_st rfl (fun _ => rfl) ?_
        refine u_st rfl (fun _ => rfl) ?_
        show u_P L xs m d m_X12_takesSome 27 [(0, .ref 100), (1, .int x1), (2, .int x2), (3, .int x3)] [.int x3, .int x2, .ref 153] S R _
        refine u_iast rfl rfl (fun b31 b32 => ?_)
        have hD := hD b31 b32
        show u_P L xs m d m_X12_takesSome 28 [(0, .ref 100), (1, .int x1), (2, .int x2), (3, .int x3)] [] (z_s S 152 x2.toInt.toNat x3) R _
        refine u_st rfl (fun _ => rfl) ?_
        refine u_st rfl (fun _ => rfl) ?_
        refine u_st rfl (fun _ => rfl) ?_
        refine u_lc (b := [(0, .ref 100), (1, .int x1), (2, .int (x2 + (Int32.ofInt 1))), (3, .int (x3 + (Int32.ofInt 1)))]) (show ([3, 2, 0, 1] : List Nat).Nodup by decide) (show ([0, 1, 2, 3] : List Nat).Nodup by decide) (fun i => match i with | 0 => rfl | 1 => rfl | 2 => rfl | 3 => rfl | _ + 4 => rfl) ?_
        exact (ih m hm) d x1 (x2 + (Int32.ofInt 1)) (x3 + (Int32.ofInt 1)) (z_s S 152 x2.toInt.toNat x3) hD
      · have hD := hD.2 h2
        show u_P L xs m d m_X12_takesSome 18 [(0, .ref 100), (1, .int x1), (2, .int x2), (3, .int x3)] [] S R _
        refine u_st rfl (fun _ => rfl) ?_
        refine u_st rfl (fun _ => rfl) ?_
        refine u_st rfl (fun _ => rfl) ?_
        refine u_lc (b := [(0, .ref 100), (1, .int x1), (2, .int x2), (3, .int (x3 + (Int32.ofInt 1)))]) (show ([3, 0, 1, 2] : List Nat).Nodup by decide) (show ([0, 1, 2, 3] : List Nat).Nodup by decide) (fun i => match i with | 0 => rfl | 1 => rfl | 2 => rfl | 3 => rfl | _ + 4 => rfl) ?_
        exact (ih m hm) d x1 x2 (x3 + (Int32.ofInt 1)) S hD
set_option maxRecDepth 4000 in
theorem w_X12_takesSome (L : Nat) (xs : Nat → Int32) {R : v_Rf} (a : Int32) (H4 : Int32 → Int32 → Int32 → v_Sf → Prop) (K : Int32 → v_Sf → Prop) (k4 : ∀ (x1 : Int32) (x2 : Int32) (x3 : Int32) (S : v_Sf), H4 x1 x2 x3 S → D_X12_takesSome_4 H4 K x1 x2 x3 S) (n d : Nat) (S : v_Sf) (hD : D_X12_takesSome a H4 K S) : u_P L xs n d m_X12_takesSome 0 (lv_args 0 [.ref 100, .int a]) [] S R (z_Q R K) := by
  unfold D_X12_takesSome at hD
  show u_P L xs n d m_X12_takesSome 0 [(0, .ref 100), (1, .int a)] [] S R _
  refine u_st rfl (fun _ => rfl) ?_
  refine u_st rfl (fun _ => rfl) ?_
  refine u_st rfl (fun _ => rfl) ?_
  refine u_st rfl (fun _ => rfl) ?_
  refine u_lc (b := [(0, .ref 100), (1, .int a), (2, .int (Int32.ofInt 0)), (3, .int (Int32.ofInt 0))]) (show ([3, 2, 0, 1] : List Nat).Nodup by decide) (show ([0, 1, 2, 3] : List Nat).Nodup by decide) (fun i => match i with | 0 => rfl | 1 => rfl | 2 => rfl | 3 => rfl | _ + 4 => rfl) ?_
  exact (hd_X12_takesSome L xs a H4 K k4 n) d a (Int32.ofInt 0) (Int32.ofInt 0) S hD
noncomputable def r_X12_takesSome_4 (x1 : Int32) : Nat → Nat → Int32 → v_Sf → Int32 × v_Sf
  | 0, k4, x2, S => (x2, S)
  | r + 1, k4, x2, S => (if ¬ (f_X12_has x1 (z_i k4)) = 0 then r_X12_takesSome_4 x1 r (k4 + 1) (x2 + (Int32.ofInt 1)) (z_s S 152 x2.toInt.toNat (z_i k4)) else r_X12_takesSome_4 x1 r (k4 + 1) x2 S)
noncomputable def F_X12_takesSome (a : Int32) (S : v_Sf) : Int32 × v_Sf := r_X12_takesSome_4 a (12 - 0) 0 (Int32.ofInt 0) S
noncomputable def f_X12_takesSome (a : Int32) (S : v_Sf) : Int32 := (F_X12_takesSome a S).1
noncomputable def g_X12_takesSome (a : Int32) (S : v_Sf) : v_Sf := (F_X12_takesSome a S).2
theorem c_X12_takesSome (L : Nat) (xs : Nat → Int32) (n d : Nat) (a : Int32) (S : v_Sf) (R : v_Rf) : u_P L xs n d m_X12_takesSome 0 (lv_args 0 [.ref 100, .int a]) [] S R (z_Q R (fun v S1 => f_X12_takesSome a S = v ∧ g_X12_takesSome a S = S1)) := by
  refine w_X12_takesSome L xs a (fun y1 y2 y3 T => ∃ (k4 : Nat), k4 ≤ 12 ∧ z_i k4 = y3 ∧ a = y1 ∧ r_X12_takesSome_4 a (12 - k4) k4 y2 T = F_X12_takesSome a S) (fun v S1 => f_X12_takesSome a S = v ∧ g_X12_takesSome a S = S1) ?_ n d S ?_
  · rintro _ x2 _ S1 ⟨k4, hkk, rfl, rfl, e⟩
    unfold D_X12_takesSome_4
    rcases Nat.lt_or_ge k4 (12) with hk | hk
    · rw [show 12 - k4 = (12 - (k4 + 1)) + 1 by omega, r_X12_takesSome_4] at e
      refine ⟨fun q1 => ?_, fun q1 => ?_⟩
      · exact absurd hk (Nat.not_lt.mpr (z_leB2 (B := 12) q1 (by decide) (by omega)))
      · refine ⟨fun q2 => ?_, fun q2 => ?_⟩
        · intro _ _
          rw [if_pos q2] at e
          exact ⟨(k4 + 1), by omega, (z_i1 k4).symm, rfl, e⟩
        · rw [if_neg q2] at e
          exact ⟨(k4 + 1), by omega, (z_i1 k4).symm, rfl, e⟩
    · rw [show 12 - k4 = 0 by omega, r_X12_takesSome_4] at e
      refine ⟨fun q3 => ?_, fun q3 => ?_⟩
      · have e1 := congrArg Prod.fst e.symm
        have e2 := congrArg Prod.snd e.symm
        exact ⟨e1, e2⟩
      · exact absurd hk (Nat.not_le.mpr (z_ltB2 (B := 12) q3 (by decide) (by omega)))
  · unfold D_X12_takesSome
    have e : r_X12_takesSome_4 a (12 - 0) 0 (Int32.ofInt 0) S = F_X12_takesSome a S := by rw [F_X12_takesSome]
    exact ⟨0, by omega, rfl, rfl, e⟩
noncomputable def D_X12_powerOf_4  (H4 : Int32 → Int32 → Int32 → Int32 → v_Sf → Prop) (K : Int32 → v_Sf → Prop) (x0 : Int32) (x1 : Int32) (x2 : Int32) (x3 : Int32) (S : v_Sf) : Prop := ((x1 ≤ x3 → K x2 S) ∧ (¬ (x1 ≤ x3) → H4 x0 x1 (x2 * x0) (x3 + (Int32.ofInt 1)) S))
noncomputable def D_X12_powerOf (a : Int32) (b : Int32) (H4 : Int32 → Int32 → Int32 → Int32 → v_Sf → Prop) (K : Int32 → v_Sf → Prop) (S : v_Sf) : Prop := H4 a b (Int32.ofInt 1) (Int32.ofInt 0) S
set_option maxRecDepth 4000 in
theorem hd_X12_powerOf (L : Nat) (xs : Nat → Int32) {R : v_Rf} (a : Int32) (b : Int32) (H4 : Int32 → Int32 → Int32 → Int32 → v_Sf → Prop) (K : Int32 → v_Sf → Prop) (k4 : ∀ (x0 : Int32) (x1 : Int32) (x2 : Int32) (x3 : Int32) (S : v_Sf), H4 x0 x1 x2 x3 S → D_X12_powerOf_4 H4 K x0 x1 x2 x3 S) : ∀ n, (∀ (d : Nat) (x0 : Int32) (x1 : Int32) (x2 : Int32) (x3 : Int32) (S : v_Sf), H4 x0 x1 x2 x3 S → u_P L xs n d m_X12_powerOf 4 [(0, .int x0), (1, .int x1), (2, .int x2), (3, .int x3)] [] S R (z_Q R K)) := by
  intro n
  induction n using Nat.strongRecOn with
  | ind n ih =>
    intro d x0 x1 x2 x3 S hD
    have hD := k4 x0 x1 x2 x3 S hD
    unfold D_X12_powerOf_4 at hD
    show u_P L xs n d m_X12_powerOf 4 [(0, .int x0), (1, .int x1), (2, .int x2), (3, .int x3)] [] S R _
    refine u_st1 rfl (fun _ => rfl) (fun m hm => ?_)
    refine u_st rfl (fun _ => rfl) ?_
    show u_P L xs m d m_X12_powerOf 6 [(0, .int x0), (1, .int x1), (2, .int x2), (3, .int x3)] [.int x1, .int x3] S R _
    refine u_ic_ge rfl (fun h1 => ?_) (fun h1 => ?_)
    · have hD := hD.1 h1
      show u_P L xs m d m_X12_powerOf 19 [(0, .int x0), (1, .int x1), (2, .int x2), (3, .int x3)] [] S R _
      refine u_st rfl (fun _ => rfl) ?_
      show u_P L xs m d m_X12_powerOf 20 [(0, .int x0), (1, .int x1), (2, .int x2), (3, .int x3)] [.int x2] S R _
      exact u_ret rfl rfl ⟨_, rfl, rfl, hD⟩
    · have hD := hD.2 h1
      show u_P L xs m d m_X12_powerOf 9 [(0, .int x0), (1, .int x1), (2, .int x2), (3, .int x3)] [] S R _
      refine u_st rfl (fun _ => rfl) ?_
      refine u_st rfl (fun _ => rfl) ?_
      refine u_st rfl (fun _ => rfl) ?_
      refine u_st rfl (fun _ => rfl) ?_
      refine u_st rfl (fun _ => rfl) ?_
      refine u_st rfl (fun _ => rfl) ?_
      refine u_lc (b := [(0, .int x0), (1, .int x1), (2, .int (x2 * x0)), (3, .int (x3 + (Int32.ofInt 1)))]) (show ([3, 2, 0, 1] : List Nat).Nodup by decide) (show ([0, 1, 2, 3] : List Nat).Nodup by decide) (fun i => match i with | 0 => rfl | 1 => rfl | 2 => rfl | 3 => rfl | _ + 4 => rfl) ?_
      exact (ih m hm) d x0 x1 (x2 * x0) (x3 + (Int32.ofInt 1)) S hD
set_option maxRecDepth 4000 in
theorem w_X12_powerOf (L : Nat) (xs : Nat → Int32) {R : v_Rf} (a : Int32) (b : Int32) (H4 : Int32 → Int32 → Int32 → Int32 → v_Sf → Prop) (K : Int32 → v_Sf → Prop) (k4 : ∀ (x0 : Int32) (x1 : Int32) (x2 : Int32) (x3 : Int32) (S : v_Sf), H4 x0 x1 x2 x3 S → D_X12_powerOf_4 H4 K x0 x1 x2 x3 S) (n d : Nat) (S : v_Sf) (hD : D_X12_powerOf a b H4 K S) : u_P L xs n d m_X12_powerOf 0 (lv_args 0 [.int a, .int b]) [] S R (z_Q R K) := by
  unfold D_X12_powerOf at hD
  show u_P L xs n d m_X12_powerOf 0 [(0, .int a), (1, .int b)] [] S R _
  refine u_st rfl (fun _ => rfl) ?_
  refine u_st rfl (fun _ => rfl) ?_
  refine u_st rfl (fun _ => rfl) ?_
  refine u_st rfl (fun _ => rfl) ?_
  refine u_lc (b := [(0, .int a), (1, .int b), (2, .int (Int32.ofInt 1)), (3, .int (Int32.ofInt 0))]) (show ([3, 2, 0, 1] : List Nat).Nodup by decide) (show ([0, 1, 2, 3] : List Nat).Nodup by decide) (fun i => match i with | 0 => rfl | 1 => rfl | 2 => rfl | 3 => rfl | _ + 4 => rfl) ?_
  exact (hd_X12_powerOf L xs a b H4 K k4 n) d a b (Int32.ofInt 1) (Int32.ofInt 0) S hD
noncomputable def r_X12_powerOf_4 (x0 : Int32) (x1 : Int32) : Nat → Nat → Int32 → Int32
  | 0, k4, x2 => x2
  | r + 1, k4, x2 => r_X12_powerOf_4 x0 x1 r (k4 + 1) (x2 * x0)
noncomputable def F_X12_powerOf (a : Int32) (b : Int32) : Int32 := r_X12_powerOf_4 a b (b.toInt.toNat - 0) 0 (Int32.ofInt 1)
noncomputable def f_X12_powerOf (a : Int32) (b : Int32) : Int32 := F_X12_powerOf a b
theorem c_X12_powerOf (L : Nat) (xs : Nat → Int32) (n d : Nat) (a : Int32) (b : Int32) (S : v_Sf) (R : v_Rf) : u_P L xs n d m_X12_powerOf 0 (lv_args 0 [.int a, .int b]) [] S R (z_Q R (fun v S1 => f_X12_powerOf a b = v ∧ S = S1)) := by
  refine w_X12_powerOf L xs a b (fun y0 y1 y2 y3 T => ∃ (k4 : Nat), k4 ≤ b.toInt.toNat ∧ z_i k4 = y3 ∧ a = y0 ∧ b = y1 ∧ S = T ∧ r_X12_powerOf_4 a b (b.toInt.toNat - k4) k4 y2 = F_X12_powerOf a b) (fun v S1 => f_X12_powerOf a b = v ∧ S = S1) ?_ n d S ?_
  · rintro _ _ x2 _ _ ⟨k4, hkk, rfl, rfl, rfl, rfl, e⟩
    unfold D_X12_powerOf_4
    rcases Nat.lt_or_ge k4 (b.toInt.toNat) with hk | hk
    · rw [show b.toInt.toNat - k4 = (b.toInt.toNat - (k4 + 1)) + 1 by omega, r_X12_powerOf_4] at e
      refine ⟨fun q1 => ?_, fun q1 => ?_⟩
      · exact absurd hk (Nat.not_lt.mpr (z_leV q1 (by omega)))
      · exact ⟨(k4 + 1), by omega, (z_i1 k4).symm, rfl, rfl, rfl, e⟩
    · rw [show b.toInt.toNat - k4 = 0 by omega, r_X12_powerOf_4] at e
      refine ⟨fun q2 => ?_, fun q2 => ?_⟩
      · exact ⟨e.symm, rfl⟩
      · exact absurd hk (Nat.not_le.mpr (z_ltV q2 (by omega)))
  · unfold D_X12_powerOf
    have e : r_X12_powerOf_4 a b (b.toInt.toNat - 0) 0 (Int32.ofInt 1) = F_X12_powerOf a b := by rw [F_X12_powerOf]
    exact ⟨0, by omega, rfl, rfl, rfl, rfl, e⟩
noncomputable def D_X12_opensRow_8  (H8 : Int32 → Int32 → Int32 → v_Sf → Prop) (K : v_Sf → Prop) (x3 : Int32) (x4 : Int32) (x5 : Int32) (S : v_Sf) : Prop := ((x5 < 0 → K S) ∧ (¬ (x5 < 0) → (¬ x3 = 0 → (0 ≤ x5.toInt → x5.toInt < 8 → (¬ x3 = 0 → H8 x3 (x4 / x3) (x5 + (Int32.ofInt (-1))) (z_s S 154 x5.toInt.toNat (x4 - x4 / x3 * x3)))))))
noncomputable def D_X12_opensRow (a : Int32) (b : Int32) (i : Int32) (H8 : Int32 → Int32 → Int32 → v_Sf → Prop) (K : v_Sf → Prop) (S : v_Sf) : Prop := H8 i a (b - (Int32.ofInt 1)) S
set_option maxRecDepth 4000 in
theorem hd_X12_opensRow (L : Nat) (xs : Nat → Int32) {R : v_Rf} (a : Int32) (b : Int32) (i : Int32) (H8 : Int32 → Int32 → Int32 → v_Sf → Prop) (K : v_Sf → Prop) (k8 : ∀ (x3 : Int32) (x4 : Int32) (x5 : Int32) (S : v_Sf), H8 x3 x4 x5 S → D_X12_opensRow_8 H8 K x3 x4 x5 S) : ∀ n, (∀ (d : Nat) (j1 : Int32) (j2 : Int32) (x3 : Int32) (x4 : Int32) (x5 : Int32) (S : v_Sf), H8 x3 x4 x5 S → u_P L xs n d m_X12_opensRow 8 [(0, .ref 100), (1, .int j1), (2, .int j2), (3, .int x3), (4, .int x4), (5, .int x5)] [] S R (z_V R K)) := by
  intro n
  induction n using Nat.strongRecOn with
  | ind n ih =>
    intro d j1 j2 x3 x4 x5 S hD
    have hD := k8 x3 x4 x5 S hD
    unfold D_X12_opensRow_8 at hD
    show u_P L xs n d m_X12_opensRow 8 [(0, .ref 100), (1, .int j1), (2, .int j2), (3, .int x3), (4, .int x4), (5, .int x5)] [] S R _
    refine u_st1 rfl (fun _ => rfl) (fun m hm => ?_)
    show u_P L xs m d m_X12_opensRow 10 [(0, .ref 100), (1, .int j1), (2, .int j2), (3, .int x3), (4, .int x4), (5, .int x5)] [.int x5] S R _
    refine u_if_lt rfl (fun h1 => ?_) (fun h1 => ?_)
    · have hD := hD.1 h1
      show u_P L xs m d m_X12_opensRow 36 [(0, .ref 100), (1, .int j1), (2, .int j2), (3, .int x3), (4, .int x4), (5, .int x5)] [] S R _
      exact u_ret rfl rfl ⟨rfl, rfl, hD⟩
    · have hD := hD.2 h1
      show u_P L xs m d m_X12_opensRow 13 [(0, .ref 100), (1, .int j1), (2, .int j2), (3, .int x3), (4, .int x4), (5, .int x5)] [] S R _
      refine u_st rfl (fun _ => rfl) ?_
      show u_P L xs m d m_X12_opensRow 14 [(0, .ref 100), (1, .int j1), (2, .int j2), (3, .int x3), (4, .int x4), (5, .int x5)] [.ref 100] S R _
      refine u_getr rfl v_tyM rfl ?_
      refine u_st rfl (fun _ => rfl) ?_
      refine u_st rfl (fun _ => rfl) ?_
      refine u_st rfl (fun _ => rfl) ?_
      show u_P L xs m d m_X12_opensRow 22 [(0, .ref 100), (1, .int j1), (2, .int j2), (3, .int x3), (4, .int x4), (5, .int x5)] [.int x3, .int x4, .int x5, .ref 155] S R _
      refine u_irem rfl (fun b2 => ?_)
      have hD := hD b2
      show u_P L xs m d m_X12_opensRow 23 [(0, .ref 100), (1, .int j1), (2, .int j2), (3, .int x3), (4, .int x4), (5, .int x5)] [.int (x4 - x4 / x3 * x3), .int x5, .ref 155] S R _
      refine u_iast rfl rfl (fun b31 b32 => ?_)
      have hD := hD b31 b32
      show u_P L xs m d m_X12_opensRow 24 [(0, .ref 100), (1, .int j1), (2, .int j2), (3, .int x3), (4, .int x4), (5, .int x5)] [] (z_s S 154 x5.toInt.toNat (x4 - x4 / x3 * x3)) R _
      refine u_st rfl (fun _ => rfl) ?_
      refine u_st rfl (fun _ => rfl) ?_
      show u_P L xs m d m_X12_opensRow 27 [(0, .ref 100), (1, .int j1), (2, .int j2), (3, .int x3), (4, .int x4), (5, .int x5)] [.int x3, .int x4] (z_s S 154 x5.toInt.toNat (x4 - x4 / x3 * x3)) R _
      refine u_idiv rfl (fun b4 => ?_)
      have hD := hD b4
      show u_P L xs m d m_X12_opensRow 28 [(0, .ref 100), (1, .int j1), (2, .int j2), (3, .int x3), (4, .int x4), (5, .int x5)] [.int (x4 / x3)] (z_s S 154 x5.toInt.toNat (x4 - x4 / x3 * x3)) R _
      refine u_st rfl (fun _ => rfl) ?_
      refine u_st rfl (fun _ => rfl) ?_
      refine u_st rfl (fun _ => rfl) ?_
      refine u_lc (b := [(0, .ref 100), (1, .int j1), (2, .int j2), (3, .int x3), (4, .int (x4 / x3)), (5, .int (x5 + (Int32.ofInt (-1))))]) (show ([5, 4, 0, 1, 2, 3] : List Nat).Nodup by decide) (show ([0, 1, 2, 3, 4, 5] : List Nat).Nodup by decide) (fun i => match i with | 0 => rfl | 1 => rfl | 2 => rfl | 3 => rfl | 4 => rfl | 5 => rfl | _ + 6 => rfl) ?_
      exact (ih m hm) d j1 j2 x3 (x4 / x3) (x5 + (Int32.ofInt (-1))) (z_s S 154 x5.toInt.toNat (x4 - x4 / x3 * x3)) hD
set_option maxRecDepth 4000 in
theorem w_X12_opensRow (L : Nat) (xs : Nat → Int32) {R : v_Rf} (a : Int32) (b : Int32) (i : Int32) (H8 : Int32 → Int32 → Int32 → v_Sf → Prop) (K : v_Sf → Prop) (k8 : ∀ (x3 : Int32) (x4 : Int32) (x5 : Int32) (S : v_Sf), H8 x3 x4 x5 S → D_X12_opensRow_8 H8 K x3 x4 x5 S) (n d : Nat) (S : v_Sf) (hD : D_X12_opensRow a b i H8 K S) : u_P L xs n d m_X12_opensRow 0 (lv_args 0 [.ref 100, .int a, .int b, .int i]) [] S R (z_V R K) := by
  unfold D_X12_opensRow at hD
  show u_P L xs n d m_X12_opensRow 0 [(0, .ref 100), (1, .int a), (2, .int b), (3, .int i)] [] S R _
  refine u_st rfl (fun _ => rfl) ?_
  refine u_st rfl (fun _ => rfl) ?_
  refine u_st rfl (fun _ => rfl) ?_
  refine u_st rfl (fun _ => rfl) ?_
  refine u_st rfl (fun _ => rfl) ?_
  refine u_st rfl (fun _ => rfl) ?_
  refine u_lc (b := [(0, .ref 100), (1, .int a), (2, .int b), (3, .int i), (4, .int a), (5, .int (b - (Int32.ofInt 1)))]) (show ([5, 4, 0, 1, 2, 3] : List Nat).Nodup by decide) (show ([0, 1, 2, 3, 4, 5] : List Nat).Nodup by decide) (fun i => match i with | 0 => rfl | 1 => rfl | 2 => rfl | 3 => rfl | 4 => rfl | 5 => rfl | _ + 6 => rfl) ?_
  exact (hd_X12_opensRow L xs a b i H8 K k8 n) d a b i a (b - (Int32.ofInt 1)) S hD
noncomputable def r_X12_opensRow_8 (x3 : Int32) : Nat → Int32 → Int32 → v_Sf → v_Sf
  | 0, x4, x5, S => S
  | r + 1, x4, x5, S => r_X12_opensRow_8 x3 r (x4 / x3) (x5 + (Int32.ofInt (-1))) (z_s S 154 x5.toInt.toNat (x4 - x4 / x3 * x3))
noncomputable def F_X12_opensRow (a : Int32) (b : Int32) (i : Int32) (S : v_Sf) : v_Sf := r_X12_opensRow_8 i ((b - (Int32.ofInt 1)).toInt + 1).toNat a (b - (Int32.ofInt 1)) S
noncomputable def g_X12_opensRow (a : Int32) (b : Int32) (i : Int32) (S : v_Sf) : v_Sf := F_X12_opensRow a b i S
theorem c_X12_opensRow (L : Nat) (xs : Nat → Int32) (n d : Nat) (a : Int32) (b : Int32) (i : Int32) (S : v_Sf) (R : v_Rf) : u_P L xs n d m_X12_opensRow 0 (lv_args 0 [.ref 100, .int a, .int b, .int i]) [] S R (z_V R (fun S1 => g_X12_opensRow a b i S = S1)) := by
  refine w_X12_opensRow L xs a b i (fun y3 y4 y5 T => i = y3 ∧ r_X12_opensRow_8 i (y5.toInt + 1).toNat y4 y5 T = F_X12_opensRow a b i S) (fun S1 => g_X12_opensRow a b i S = S1) ?_ n d S ?_
  · rintro _ x4 x5 S1 ⟨rfl, e⟩
    unfold D_X12_opensRow_8
    rcases Classical.em (x5 < 0) with hk | hk
    · rw [z_dn0 hk, r_X12_opensRow_8] at e
      refine ⟨fun q1 => ?_, fun q1 => ?_⟩
      · exact e.symm
      · exact absurd hk q1
    · rw [z_dn hk, r_X12_opensRow_8] at e
      refine ⟨fun q2 => ?_, fun q2 => ?_⟩
      · exact absurd q2 hk
      · intro _
        intro _ _
        intro _
        exact ⟨rfl, e⟩
  · unfold D_X12_opensRow
    have e : r_X12_opensRow_8 i ((b - (Int32.ofInt 1)).toInt + 1).toNat a (b - (Int32.ofInt 1)) S = F_X12_opensRow a b i S := by rw [F_X12_opensRow]
    exact ⟨rfl, e⟩
noncomputable def D_X12_keepsRow_2  (H2 : Int32 → Int32 → v_Sf → Prop) (K : v_Sf → Prop) (x1 : Int32) (x2 : Int32) (S : v_Sf) : Prop := ((x1 ≤ x2 → K S) ∧ (¬ (x1 ≤ x2) → (0 ≤ x2.toInt → x2.toInt < 8 → (0 ≤ x2.toInt → x2.toInt < 8 → H2 x1 (x2 + (Int32.ofInt 1)) (z_s S 155 x2.toInt.toNat (S 154 x2.toInt.toNat))))))
noncomputable def D_X12_keepsRow (a : Int32) (H2 : Int32 → Int32 → v_Sf → Prop) (K : v_Sf → Prop) (S : v_Sf) : Prop := H2 a (Int32.ofInt 0) S
set_option maxRecDepth 4000 in
theorem hd_X12_keepsRow (L : Nat) (xs : Nat → Int32) {R : v_Rf} (a : Int32) (H2 : Int32 → Int32 → v_Sf → Prop) (K : v_Sf → Prop) (k2 : ∀ (x1 : Int32) (x2 : Int32) (S : v_Sf), H2 x1 x2 S → D_X12_keepsRow_2 H2 K x1 x2 S) : ∀ n, (∀ (d : Nat) (x1 : Int32) (x2 : Int32) (S : v_Sf), H2 x1 x2 S → u_P L xs n d m_X12_keepsRow 2 [(0, .ref 100), (1, .int x1), (2, .int x2)] [] S R (z_V R K)) := by
  intro n
  induction n using Nat.strongRecOn with
  | ind n ih =>
    intro d x1 x2 S hD
    have hD := k2 x1 x2 S hD
    unfold D_X12_keepsRow_2 at hD
    show u_P L xs n d m_X12_keepsRow 2 [(0, .ref 100), (1, .int x1), (2, .int x2)] [] S R _
    refine u_st1 rfl (fun _ => rfl) (fun m hm => ?_)
    refine u_st rfl (fun _ => rfl) ?_
    show u_P L xs m d m_X12_keepsRow 4 [(0, .ref 100), (1, .int x1), (2, .int x2)] [.int x1, .int x2] S R _
    refine u_ic_ge rfl (fun h1 => ?_) (fun h1 => ?_)
    · have hD := hD.1 h1
      show u_P L xs m d m_X12_keepsRow 25 [(0, .ref 100), (1, .int x1), (2, .int x2)] [] S R _
      exact u_ret rfl rfl ⟨rfl, rfl, hD⟩
    · have hD := hD.2 h1
      show u_P L xs m d m_X12_keepsRow 7 [(0, .ref 100), (1, .int x1), (2, .int x2)] [] S R _
      refine u_st rfl (fun _ => rfl) ?_
      show u_P L xs m d m_X12_keepsRow 8 [(0, .ref 100), (1, .int x1), (2, .int x2)] [.ref 100] S R _
      refine u_getr rfl v_tyM rfl ?_
      refine u_st rfl (fun _ => rfl) ?_
      refine u_st rfl (fun _ => rfl) ?_
      show u_P L xs m d m_X12_keepsRow 13 [(0, .ref 100), (1, .int x1), (2, .int x2)] [.ref 100, .int x2, .ref 156] S R _
      refine u_getr rfl v_tyM rfl ?_
      refine u_st rfl (fun _ => rfl) ?_
      show u_P L xs m d m_X12_keepsRow 17 [(0, .ref 100), (1, .int x1), (2, .int x2)] [.int x2, .ref 155, .int x2, .ref 156] S R _
      refine u_ialdE (v := S 154 x2.toInt.toNat) rfl rfl rfl (fun b21 b22 => ?_)
      have hD := hD b21 b22
      show u_P L xs m d m_X12_keepsRow 18 [(0, .ref 100), (1, .int x1), (2, .int x2)] [.int (S 154 x2.toInt.toNat), .int x2, .ref 156] S R _
      refine u_iast rfl rfl (fun b31 b32 => ?_)
      have hD := hD b31 b32
      show u_P L xs m d m_X12_keepsRow 19 [(0, .ref 100), (1, .int x1), (2, .int x2)] [] (z_s S 155 x2.toInt.toNat (S 154 x2.toInt.toNat)) R _
      refine u_st rfl (fun _ => rfl) ?_
      refine u_st rfl (fun _ => rfl) ?_
      refine u_lc (b := [(0, .ref 100), (1, .int x1), (2, .int (x2 + (Int32.ofInt 1)))]) (show ([2, 0, 1] : List Nat).Nodup by decide) (show ([0, 1, 2] : List Nat).Nodup by decide) (fun i => match i with | 0 => rfl | 1 => rfl | 2 => rfl | _ + 3 => rfl) ?_
      exact (ih m hm) d x1 (x2 + (Int32.ofInt 1)) (z_s S 155 x2.toInt.toNat (S 154 x2.toInt.toNat)) hD
set_option maxRecDepth 4000 in
theorem w_X12_keepsRow (L : Nat) (xs : Nat → Int32) {R : v_Rf} (a : Int32) (H2 : Int32 → Int32 → v_Sf → Prop) (K : v_Sf → Prop) (k2 : ∀ (x1 : Int32) (x2 : Int32) (S : v_Sf), H2 x1 x2 S → D_X12_keepsRow_2 H2 K x1 x2 S) (n d : Nat) (S : v_Sf) (hD : D_X12_keepsRow a H2 K S) : u_P L xs n d m_X12_keepsRow 0 (lv_args 0 [.ref 100, .int a]) [] S R (z_V R K) := by
  unfold D_X12_keepsRow at hD
  show u_P L xs n d m_X12_keepsRow 0 [(0, .ref 100), (1, .int a)] [] S R _
  refine u_st rfl (fun _ => rfl) ?_
  refine u_st rfl (fun _ => rfl) ?_
  refine u_lc (b := [(0, .ref 100), (1, .int a), (2, .int (Int32.ofInt 0))]) (show ([2, 0, 1] : List Nat).Nodup by decide) (show ([0, 1, 2] : List Nat).Nodup by decide) (fun i => match i with | 0 => rfl | 1 => rfl | 2 => rfl | _ + 3 => rfl) ?_
  exact (hd_X12_keepsRow L xs a H2 K k2 n) d a (Int32.ofInt 0) S hD
noncomputable def r_X12_keepsRow_2 (x1 : Int32) : Nat → Nat → v_Sf → v_Sf
  | 0, k2, S => S
  | r + 1, k2, S => r_X12_keepsRow_2 x1 r (k2 + 1) (z_s S 155 (z_i k2).toInt.toNat (S 154 (z_i k2).toInt.toNat))
noncomputable def F_X12_keepsRow (a : Int32) (S : v_Sf) : v_Sf := r_X12_keepsRow_2 a (a.toInt.toNat - 0) 0 S
noncomputable def g_X12_keepsRow (a : Int32) (S : v_Sf) : v_Sf := F_X12_keepsRow a S
theorem c_X12_keepsRow (L : Nat) (xs : Nat → Int32) (n d : Nat) (a : Int32) (S : v_Sf) (R : v_Rf) : u_P L xs n d m_X12_keepsRow 0 (lv_args 0 [.ref 100, .int a]) [] S R (z_V R (fun S1 => g_X12_keepsRow a S = S1)) := by
  refine w_X12_keepsRow L xs a (fun y1 y2 T => ∃ (k2 : Nat), k2 ≤ a.toInt.toNat ∧ z_i k2 = y2 ∧ a = y1 ∧ r_X12_keepsRow_2 a (a.toInt.toNat - k2) k2 T = F_X12_keepsRow a S) (fun S1 => g_X12_keepsRow a S = S1) ?_ n d S ?_
  · rintro _ _ S1 ⟨k2, hkk, rfl, rfl, e⟩
    unfold D_X12_keepsRow_2
    rcases Nat.lt_or_ge k2 (a.toInt.toNat) with hk | hk
    · rw [show a.toInt.toNat - k2 = (a.toInt.toNat - (k2 + 1)) + 1 by omega, r_X12_keepsRow_2] at e
      refine ⟨fun q1 => ?_, fun q1 => ?_⟩
      · exact absurd hk (Nat.not_lt.mpr (z_leV q1 (by omega)))
      · intro _ _
        intro _ _
        exact ⟨(k2 + 1), by omega, (z_i1 k2).symm, rfl, e⟩
    · rw [show a.toInt.toNat - k2 = 0 by omega, r_X12_keepsRow_2] at e
      refine ⟨fun q2 => ?_, fun q2 => ?_⟩
      · exact e.symm
      · exact absurd hk (Nat.not_le.mpr (z_ltV q2 (by omega)))
  · unfold D_X12_keepsRow
    have e : r_X12_keepsRow_2 a (a.toInt.toNat - 0) 0 S = F_X12_keepsRow a S := by rw [F_X12_keepsRow]
    exact ⟨0, by omega, rfl, rfl, e⟩
noncomputable abbrev m_X12_canLeave : g_M := (g_cn 12, yX12_canLeave, cX12_canLeave, 5, (some .boolean), g_look2 ttX12_canLeave)
set_option maxRecDepth 20000 in
theorem mt_X12_canLeave : g_mt 262 = some m_X12_canLeave := rfl
noncomputable def D_X12_canLeave_12  (H12 : Int32 → Int32 → v_Sf → Prop) (H40 : Int32 → Int32 → Int32 → v_Sf → Prop) (H159 : Int32 → Int32 → v_Sf → Prop) (H169 : Int32 → Int32 → Int32 → Int32 → v_Sf → Prop) (K : Int32 → v_Sf → Prop) (x1 : Int32) (x2 : Int32) (S : v_Sf) : Prop := ((x1 ≤ x2 → H159 x1 (Int32.ofInt 0) S) ∧ (¬ (x1 ≤ x2) → (0 ≤ x2.toInt → x2.toInt < 12 → (0 ≤ x2.toInt → x2.toInt < 8 → (((¬ (f_X12_canGo (S 152 x2.toInt.toNat) (S 154 x2.toInt.toNat) S) = 0) → H40 x1 x2 (Int32.ofInt 0) S) ∧ (¬ (¬ (f_X12_canGo (S 152 x2.toInt.toNat) (S 154 x2.toInt.toNat) S) = 0) → K (Int32.ofInt 0) S))))))
noncomputable def D_X12_canLeave_40  (H12 : Int32 → Int32 → v_Sf → Prop) (H40 : Int32 → Int32 → Int32 → v_Sf → Prop) (H159 : Int32 → Int32 → v_Sf → Prop) (H169 : Int32 → Int32 → Int32 → Int32 → v_Sf → Prop) (K : Int32 → v_Sf → Prop) (x1 : Int32) (x2 : Int32) (x3 : Int32) (S : v_Sf) : Prop := ((x2 ≤ x3 → (0 ≤ x2.toInt → x2.toInt < 8 → (((¬ (S 154 x2.toInt.toNat) = (Int32.ofInt 4)) → (0 ≤ x2.toInt → x2.toInt < 8 → (0 ≤ x2.toInt → x2.toInt < 12 → (0 ≤ (S 152 x2.toInt.toNat).toInt → (S 152 x2.toInt.toNat).toInt < 12 → H12 x1 (x2 + (Int32.ofInt 1)) (z_s (z_s S 99 100 ((S 99 100) + (Int32.ofInt 1))) 99 101 ((S 99 101) + (S 117 ((S 152 x2.toInt.toNat).toInt.toNat)))))))) ∧ (¬ (¬ (S 154 x2.toInt.toNat) = (Int32.ofInt 4)) → (0 ≤ x2.toInt → x2.toInt < 8 → H12 x1 (x2 + (Int32.ofInt 1)) (z_s (z_s S 99 100 ((S 99 100) + (Int32.ofInt 0))) 99 101 ((S 99 101) + (Int32.ofInt 0)))))))) ∧ (¬ (x2 ≤ x3) → (0 ≤ x3.toInt → x3.toInt < 12 → (0 ≤ (S 152 x3.toInt.toNat).toInt → (S 152 x3.toInt.toNat).toInt < 12 → (0 ≤ x2.toInt → x2.toInt < 12 → (0 ≤ (S 152 x2.toInt.toNat).toInt → (S 152 x2.toInt.toNat).toInt < 12 → (((¬ (S 121 ((S 152 x3.toInt.toNat).toInt.toNat)) = (S 121 ((S 152 x2.toInt.toNat).toInt.toNat))) → H40 x1 x2 (x3 + (Int32.ofInt 1)) S) ∧ (¬ (¬ (S 121 ((S 152 x3.toInt.toNat).toInt.toNat)) = (S 121 ((S 152 x2.toInt.toNat).toInt.toNat))) → (0 ≤ x3.toInt → x3.toInt < 8 → (0 ≤ x2.toInt → x2.toInt < 8 → (((S 154 x3.toInt.toNat) = (S 154 x2.toInt.toNat) → H40 x1 x2 (x3 + (Int32.ofInt 1)) S) ∧ (¬ ((S 154 x3.toInt.toNat) = (S 154 x2.toInt.toNat)) → K (Int32.ofInt 0) S))))))))))))
noncomputable def D_X12_canLeave_159  (H12 : Int32 → Int32 → v_Sf → Prop) (H40 : Int32 → Int32 → Int32 → v_Sf → Prop) (H159 : Int32 → Int32 → v_Sf → Prop) (H169 : Int32 → Int32 → Int32 → Int32 → v_Sf → Prop) (K : Int32 → v_Sf → Prop) (x1 : Int32) (x2 : Int32) (S : v_Sf) : Prop := (((Int32.ofInt 4) ≤ x2 → K (Int32.ofInt 1) S) ∧ (¬ ((Int32.ofInt 4) ≤ x2) → H169 x1 x2 (Int32.ofInt 0) (Int32.ofInt 0) S))
noncomputable def D_X12_canLeave_169  (H12 : Int32 → Int32 → v_Sf → Prop) (H40 : Int32 → Int32 → Int32 → v_Sf → Prop) (H159 : Int32 → Int32 → v_Sf → Prop) (H169 : Int32 → Int32 → Int32 → Int32 → v_Sf → Prop) (K : Int32 → v_Sf → Prop) (x1 : Int32) (x2 : Int32) (x3 : Int32) (x4 : Int32) (S : v_Sf) : Prop := ((x1 ≤ x4 → (0 ≤ x2.toInt → x2.toInt < 4 → (((S 156 x2.toInt.toNat) = 0 → H159 x1 (x2 + (Int32.ofInt 1)) S) ∧ (¬ ((S 156 x2.toInt.toNat) = 0) → (0 ≤ x2.toInt → x2.toInt < 4 → ((x3 ≤ (S 158 x2.toInt.toNat) → H159 x1 (x2 + (Int32.ofInt 1)) S) ∧ (¬ (x3 ≤ (S 158 x2.toInt.toNat)) → K (Int32.ofInt 0) S))))))) ∧ (¬ (x1 ≤ x4) → (0 ≤ x4.toInt → x4.toInt < 8 → (((¬ (S 154 x4.toInt.toNat) = x2) → H169 x1 x2 (x3 + (Int32.ofInt 0)) (x4 + (Int32.ofInt 1)) S) ∧ (¬ (¬ (S 154 x4.toInt.toNat) = x2) → (0 ≤ x4.toInt → x4.toInt < 12 → (0 ≤ (S 152 x4.toInt.toNat).toInt → (S 152 x4.toInt.toNat).toInt < 12 → H169 x1 x2 (x3 + (S 117 ((S 152 x4.toInt.toNat).toInt.toNat))) (x4 + (Int32.ofInt 1)) S)))))))
noncomputable def D_X12_canLeave (a : Int32) (H12 : Int32 → Int32 → v_Sf → Prop) (H40 : Int32 → Int32 → Int32 → v_Sf → Prop) (H159 : Int32 → Int32 → v_Sf → Prop) (H169 : Int32 → Int32 → Int32 → Int32 → v_Sf → Prop) (K : Int32 → v_Sf → Prop) (S : v_Sf) : Prop := H12 a (Int32.ofInt 0) (z_s (z_s S 99 100 (Int32.ofInt 0)) 99 101 (Int32.ofInt 0))
set_option maxRecDepth 4000 in
theorem hd_X12_canLeave (L : Nat) (xs : Nat → Int32) {R : v_Rf} (a : Int32) (H12 : Int32 → Int32 → v_Sf → Prop) (H40 : Int32 → Int32 → Int32 → v_Sf → Prop) (H159 : Int32 → Int32 → v_Sf → Prop) (H169 : Int32 → Int32 → Int32 → Int32 → v_Sf → Prop) (K : Int32 → v_Sf → Prop) (k12 : ∀ (x1 : Int32) (x2 : Int32) (S : v_Sf), H12 x1 x2 S → D_X12_canLeave_12 H12 H40 H159 H169 K x1 x2 S) (k40 : ∀ (x1 : Int32) (x2 : Int32) (x3 : Int32) (S : v_Sf), H40 x1 x2 x3 S → D_X12_canLeave_40 H12 H40 H159 H169 K x1 x2 x3 S) (k159 : ∀ (x1 : Int32) (x2 : Int32) (S : v_Sf), H159 x1 x2 S → D_X12_canLeave_159 H12 H40 H159 H169 K x1 x2 S) (k169 : ∀ (x1 : Int32) (x2 : Int32) (x3 : Int32) (x4 : Int32) (S : v_Sf), H169 x1 x2 x3 x4 S → D_X12_canLeave_169 H12 H40 H159 H169 K x1 x2 x3 x4 S) : ∀ n, (∀ (d : Nat) (x1 : Int32) (x2 : Int32) (S : v_Sf), H12 x1 x2 S → u_P L xs n d m_X12_canLeave 12 [(0, .ref 100), (1, .int x1), (2, .int x2)] [] S R (z_Q R K)) ∧ (∀ (d : Nat) (j3 : Int32) (x1 : Int32) (x2 : Int32) (S : v_Sf), H12 x1 x2 S → u_P L xs n d m_X12_canLeave 12 [(0, .ref 100), (1, .int x1), (2, .int x2), (3, .int j3)] [] S R (z_Q R K)) ∧ (∀ (d : Nat) (x1 : Int32) (x2 : Int32) (x3 : Int32) (S : v_Sf), H40 x1 x2 x3 S → u_P L xs n d m_X12_canLeave 40 [(0, .ref 100), (1, .int x1), (2, .int x2), (3, .int x3)] [] S R (z_Q R K)) ∧ (∀ (d : Nat) (x1 : Int32) (x2 : Int32) (S : v_Sf), H159 x1 x2 S → u_P L xs n d m_X12_canLeave 159 [(0, .ref 100), (1, .int x1), (2, .int x2)] [] S R (z_Q R K)) ∧ (∀ (d : Nat) (j3 : Int32) (j4 : Int32) (x1 : Int32) (x2 : Int32) (S : v_Sf), H159 x1 x2 S → u_P L xs n d m_X12_canLeave 159 [(0, .ref 100), (1, .int x1), (2, .int x2), (3, .int j3), (4, .int j4)] [] S R (z_Q R K)) ∧ (∀ (d : Nat) (j3 : Int32) (x1 : Int32) (x2 : Int32) (S : v_Sf), H159 x1 x2 S → u_P L xs n d m_X12_canLeave 159 [(0, .ref 100), (1, .int x1), (2, .int x2), (3, .int j3)] [] S R (z_Q R K)) ∧ (∀ (d : Nat) (x1 : Int32) (x2 : Int32) (x3 : Int32) (x4 : Int32) (S : v_Sf), H169 x1 x2 x3 x4 S → u_P L xs n d m_X12_canLeave 169 [(0, .ref 100), (1, .int x1), (2, .int x2), (3, .int x3), (4, .int x4)] [] S R (z_Q R K)) := by
  intro n
  induction n using Nat.strongRecOn with
  | ind n ih =>
    refine ⟨?_, ?_, ?_, ?_, ?_, ?_, ?_⟩
    · intro d x1 x2 S hD
      have hD := k12 x1 x2 S hD
      unfold D_X12_canLeave_12 at hD
      show u_P L xs n d m_X12_canLeave 12 [(0, .ref 100), (1, .int x1), (2, .int x2)] [] S R _
      refine u_st1 rfl (fun _ => rfl) (fun m hm => ?_)
      refine u_st rfl (fun _ => rfl) ?_
      show u_P L xs m d m_X12_canLeave 14 [(0, .ref 100), (1, .int x1), (2, .int x2)] [.int x1, .int x2] S R _
      refine u_ic_ge rfl (fun h1 => ?_) (fun h1 => ?_)
      · have hD := hD.1 h1
        show u_P L xs m d m_X12_canLeave 157 [(0, .ref 100), (1, .int x1), (2, .int x2)] [] S R _
        refine u_st rfl (fun _ => rfl) ?_
        refine u_st rfl (fun _ => rfl) ?_
        refine u_lc (b := [(0, .ref 100), (1, .int x1), (2, .int (Int32.ofInt 0))]) (show ([2, 0, 1] : List Nat).Nodup by decide) (show ([0, 1, 2] : List Nat).Nodup by decide) (fun i => match i with | 0 => rfl | 1 => rfl | 2 => rfl | _ + 3 => rfl) ?_
        exact (ih m hm).2.2.2.1 d x1 (Int32.ofInt 0) S hD
      · have hD := hD.2 h1
        show u_P L xs m d m_X12_canLeave 17 [(0, .ref 100), (1, .int x1), (2, .int x2)] [] S R _
        refine u_st rfl (fun _ => rfl) ?_
        refine u_st rfl (fun _ => rfl) ?_
        show u_P L xs m d m_X12_canLeave 19 [(0, .ref 100), (1, .int x1), (2, .int x2)] [.ref 100, .ref 100] S R _
        refine u_getr rfl v_tyM rfl ?_
        refine u_st rfl (fun _ => rfl) ?_
        show u_P L xs m d m_X12_canLeave 23 [(0, .ref 100), (1, .int x1), (2, .int x2)] [.int x2, .ref 153, .ref 100] S R _
        refine u_ialdE (v := S 152 x2.toInt.toNat) rfl rfl rfl (fun b21 b22 => ?_)
        have hD := hD b21 b22
        show u_P L xs m d m_X12_canLeave 24 [(0, .ref 100), (1, .int x1), (2, .int x2)] [.int (S 152 x2.toInt.toNat), .ref 100] S R _
        refine u_st rfl (fun _ => rfl) ?_
        show u_P L xs m d m_X12_canLeave 25 [(0, .ref 100), (1, .int x1), (2, .int x2)] [.ref 100, .int (S 152 x2.toInt.toNat), .ref 100] S R _
        refine u_getr rfl v_tyM rfl ?_
        refine u_st rfl (fun _ => rfl) ?_
        show u_P L xs m d m_X12_canLeave 29 [(0, .ref 100), (1, .int x1), (2, .int x2)] [.int x2, .ref 155, .int (S 152 x2.toInt.toNat), .ref 100] S R _
        refine u_ialdE (v := S 154 x2.toInt.toNat) rfl rfl rfl (fun b31 b32 => ?_)
        have hD := hD b31 b32
        show u_P L xs m d m_X12_canLeave 30 [(0, .ref 100), (1, .int x1), (2, .int x2)] [.int (S 154 x2.toInt.toNat), .int (S 152 x2.toInt.toNat), .ref 100] S R _
        refine u_cv (rest := []) rfl (by decide) mt_X12_canGo v_tyM rfl rfl rfl (Nat.le_of_ble_eq_true rfl) (Nat.le_of_ble_eq_true rfl) (Nat.le_of_ble_eq_true rfl) (fun d' => c_X12_canGo L xs m d' (S 152 x2.toInt.toNat) (S 154 x2.toInt.toNat) S R) ?_
        rintro _ _ _ ⟨_, rfl, rfl, rfl, rfl⟩
        show u_P L xs m d m_X12_canLeave 33 [(0, .ref 100), (1, .int x1), (2, .int x2)] [.int (f_X12_canGo (S 152 x2.toInt.toNat) (S 154 x2.toInt.toNat) S)] S R _
        refine u_if_ne rfl (fun h4 => ?_) (fun h4 => ?_)
        · have hD := hD.1 h4
          show u_P L xs m d m_X12_canLeave 38 [(0, .ref 100), (1, .int x1), (2, .int x2)] [] S R _
          refine u_st rfl (fun _ => rfl) ?_
          refine u_st rfl (fun _ => rfl) ?_
          refine u_lc (b := [(0, .ref 100), (1, .int x1), (2, .int x2), (3, .int (Int32.ofInt 0))]) (show ([3, 0, 1, 2] : List Nat).Nodup by decide) (show ([0, 1, 2, 3] : List Nat).Nodup by decide) (fun i => match i with | 0 => rfl | 1 => rfl | 2 => rfl | 3 => rfl | _ + 4 => rfl) ?_
          exact (ih m hm).2.2.1 d x1 x2 (Int32.ofInt 0) S hD
        · have hD := hD.2 h4
          show u_P L xs m d m_X12_canLeave 36 [(0, .ref 100), (1, .int x1), (2, .int x2)] [] S R _
          refine u_st rfl (fun _ => rfl) ?_
          show u_P L xs m d m_X12_canLeave 37 [(0, .ref 100), (1, .int x1), (2, .int x2)] [.int (Int32.ofInt 0)] S R _
          exact u_retb rfl rfl ⟨_, rfl, rfl, hD⟩
    · intro d j3 x1 x2 S hD
      have hD := k12 x1 x2 S hD
      unfold D_X12_canLeave_12 at hD
      show u_P L xs n d m_X12_canLeave 12 [(0, .ref 100), (1, .int x1), (2, .int x2), (3, .int j3)] [] S R _
      refine u_st1 rfl (fun _ => rfl) (fun m hm => ?_)
      refine u_st rfl (fun _ => rfl) ?_
      show u_P L xs m d m_X12_canLeave 14 [(0, .ref 100), (1, .int x1), (2, .int x2), (3, .int j3)] [.int x1, .int x2] S R _
      refine u_ic_ge rfl (fun h1 => ?_) (fun h1 => ?_)
      · have hD := hD.1 h1
        show u_P L xs m d m_X12_canLeave 157 [(0, .ref 100), (1, .int x1), (2, .int x2), (3, .int j3)] [] S R _
        refine u_st rfl (fun _ => rfl) ?_
        refine u_st rfl (fun _ => rfl) ?_
        refine u_lc (b := [(0, .ref 100), (1, .int x1), (2, .int (Int32.ofInt 0)), (3, .int j3)]) (show ([2, 0, 1, 3] : List Nat).Nodup by decide) (show ([0, 1, 2, 3] : List Nat).Nodup by decide) (fun i => match i with | 0 => rfl | 1 => rfl | 2 => rfl | 3 => rfl | _ + 4 => rfl) ?_
        exact (ih m hm).2.2.2.2.2.1 d j3 x1 (Int32.ofInt 0) S hD
      · have hD := hD.2 h1
        show u_P L xs m d m_X12_canLeave 17 [(0, .ref 100), (1, .int x1), (2, .int x2), (3, .int j3)] [] S R _
        refine u_st rfl (fun _ => rfl) ?_
        refine u_st rfl (fun _ => rfl) ?_
        show u_P L xs m d m_X12_canLeave 19 [(0, .ref 100), (1, .int x1), (2, .int x2), (3, .int j3)] [.ref 100, .ref 100] S R _
        refine u_getr rfl v_tyM rfl ?_
        refine u_st rfl (fun _ => rfl) ?_
        show u_P L xs m d m_X12_canLeave 23 [(0, .ref 100), (1, .int x1), (2, .int x2), (3, .int j3)] [.int x2, .ref 153, .ref 100] S R _
        refine u_ialdE (v := S 152 x2.toInt.toNat) rfl rfl rfl (fun b21 b22 => ?_)
        have hD := hD b21 b22
        show u_P L xs m d m_X12_canLeave 24 [(0, .ref 100), (1, .int x1), (2, .int x2), (3, .int j3)] [.int (S 152 x2.toInt.toNat), .ref 100] S R _
        refine u_st rfl (fun _ => rfl) ?_
        show u_P L xs m d m_X12_canLeave 25 [(0, .ref 100), (1, .int x1), (2, .int x2), (3, .int j3)] [.ref 100, .int (S 152 x2.toInt.toNat), .ref 100] S R _
        refine u_getr rfl v_tyM rfl ?_
        refine u_st rfl (fun _ => rfl) ?_
        show u_P L xs m d m_X12_canLeave 29 [(0, .ref 100), (1, .int x1), (2, .int x2), (3, .int j3)] [.int x2, .ref 155, .int (S 152 x2.toInt.toNat), .ref 100] S R _
        refine u_ialdE (v := S 154 x2.toInt.toNat) rfl rfl rfl (fun b31 b32 => ?_)
        have hD := hD b31 b32
        show u_P L xs m d m_X12_canLeave 30 [(0, .ref 100), (1, .int x1), (2, .int x2), (3, .int j3)] [.int (S 154 x2.toInt.toNat), .int (S 152 x2.toInt.toNat), .ref 100] S R _
        refine u_cv (rest := []) rfl (by decide) mt_X12_canGo v_tyM rfl rfl rfl (Nat.le_of_ble_eq_true rfl) (Nat.le_of_ble_eq_true rfl) (Nat.le_of_ble_eq_true rfl) (fun d' => c_X12_canGo L xs m d' (S 152 x2.toInt.toNat) (S 154 x2.toInt.toNat) S R) ?_
        rintro _ _ _ ⟨_, rfl, rfl, rfl, rfl⟩
        show u_P L xs m d m_X12_canLeave 33 [(0, .ref 100), (1, .int x1), (2, .int x2), (3, .int j3)] [.int (f_X12_canGo (S 152 x2.toInt.toNat) (S 154 x2.toInt.toNat) S)] S R _
        refine u_if_ne rfl (fun h4 => ?_) (fun h4 => ?_)
        · have hD := hD.1 h4
          show u_P L xs m d m_X12_canLeave 38 [(0, .ref 100), (1, .int x1), (2, .int x2), (3, .int j3)] [] S R _
          refine u_st rfl (fun _ => rfl) ?_
          refine u_st rfl (fun _ => rfl) ?_
          refine u_lc (b := [(0, .ref 100), (1, .int x1), (2, .int x2), (3, .int (Int32.ofInt 0))]) (show ([3, 0, 1, 2] : List Nat).Nodup by decide) (show ([0, 1, 2, 3] : List Nat).Nodup by decide) (fun i => match i with | 0 => rfl | 1 => rfl | 2 => rfl | 3 => rfl | _ + 4 => rfl) ?_
          exact (ih m hm).2.2.1 d x1 x2 (Int32.ofInt 0) S hD
        · have hD := hD.2 h4
          show u_P L xs m d m_X12_canLeave 36 [(0, .ref 100), (1, .int x1), (2, .int x2), (3, .int j3)] [] S R _
          refine u_st rfl (fun _ => rfl) ?_
          show u_P L xs m d m_X12_canLeave 37 [(0, .ref 100), (1, .int x1), (2, .int x2), (3, .int j3)] [.int (Int32.ofInt 0)] S R _
          exact u_retb rfl rfl ⟨_, rfl, rfl, hD⟩
    · intro d x1 x2 x3 S hD
      have hD := k40 x1 x2 x3 S hD
      unfold D_X12_canLeave_40 at hD
      show u_P L xs n d m_X12_canLeave 40 [(0, .ref 100), (1, .int x1), (2, .int x2), (3, .int x3)] [] S R _
      refine u_st1 rfl (fun _ => rfl) (fun m hm => ?_)
      refine u_st rfl (fun _ => rfl) ?_
      show u_P L xs m d m_X12_canLeave 42 [(0, .ref 100), (1, .int x1), (2, .int x2), (3, .int x3)] [.int x2, .int x3] S R _
      refine u_ic_ge rfl (fun h1 => ?_) (fun h1 => ?_)
      · have hD := hD.1 h1
        show u_P L xs m d m_X12_canLeave 93 [(0, .ref 100), (1, .int x1), (2, .int x2), (3, .int x3)] [] S R _
        refine u_st rfl (fun _ => rfl) ?_
        refine u_st rfl (fun _ => rfl) ?_
        show u_P L xs m d m_X12_canLeave 95 [(0, .ref 100), (1, .int x1), (2, .int x2), (3, .int x3)] [.ref 100, .ref 100] S R _
        refine u_getE (v := S 99 100) rfl v_tyM rfl rfl ?_
        refine u_st rfl (fun _ => rfl) ?_
        show u_P L xs m d m_X12_canLeave 99 [(0, .ref 100), (1, .int x1), (2, .int x2), (3, .int x3)] [.ref 100, .int (S 99 100), .ref 100] S R _
        refine u_getr rfl v_tyM rfl ?_
        refine u_st rfl (fun _ => rfl) ?_
        show u_P L xs m d m_X12_canLeave 103 [(0, .ref 100), (1, .int x1), (2, .int x2), (3, .int x3)] [.int x2, .ref 155, .int (S 99 100), .ref 100] S R _
        refine u_ialdE (v := S 154 x2.toInt.toNat) rfl rfl rfl (fun b21 b22 => ?_)
        have hD := hD b21 b22
        show u_P L xs m d m_X12_canLeave 104 [(0, .ref 100), (1, .int x1), (2, .int x2), (3, .int x3)] [.int (S 154 x2.toInt.toNat), .int (S 99 100), .ref 100] S R _
        refine u_st rfl (fun _ => rfl) ?_
        show u_P L xs m d m_X12_canLeave 105 [(0, .ref 100), (1, .int x1), (2, .int x2), (3, .int x3)] [.int (Int32.ofInt 4), .int (S 154 x2.toInt.toNat), .int (S 99 100), .ref 100] S R _
        refine u_ic_ne rfl (fun h3 => ?_) (fun h3 => ?_)
        · have hD := hD.1 h3
          show u_P L xs m d m_X12_canLeave 112 [(0, .ref 100), (1, .int x1), (2, .int x2), (3, .int x3)] [.int (S 99 100), .ref 100] S R _
          refine u_st rfl (fun _ => rfl) ?_
          refine u_st rfl (fun _ => rfl) ?_
          show u_P L xs m d m_X12_canLeave 114 [(0, .ref 100), (1, .int x1), (2, .int x2), (3, .int x3)] [.int ((S 99 100) + (Int32.ofInt 1)), .ref 100] S R _
          refine u_put rfl v_tyM rfl ?_
          refine u_st rfl (fun _ => rfl) ?_
          refine u_st rfl (fun _ => rfl) ?_
          show u_P L xs m d m_X12_canLeave 119 [(0, .ref 100), (1, .int x1), (2, .int x2), (3, .int x3)] [.ref 100, .ref 100] (z_s S 99 100 ((S 99 100) + (Int32.ofInt 1))) R _
          refine u_getE (v := S 99 101) rfl v_tyM rfl (z_sn (fun h => absurd h.2 (by decide))) ?_
          refine u_st rfl (fun _ => rfl) ?_
          show u_P L xs m d m_X12_canLeave 123 [(0, .ref 100), (1, .int x1), (2, .int x2), (3, .int x3)] [.ref 100, .int (S 99 101), .ref 100] (z_s S 99 100 ((S 99 100) + (Int32.ofInt 1))) R _
          refine u_getr rfl v_tyM rfl ?_
          refine u_st rfl (fun _ => rfl) ?_
          show u_P L xs m d m_X12_canLeave 127 [(0, .ref 100), (1, .int x1), (2, .int x2), (3, .int x3)] [.int x2, .ref 155, .int (S 99 101), .ref 100] (z_s S 99 100 ((S 99 100) + (Int32.ofInt 1))) R _
          refine u_ialdE (v := S 154 x2.toInt.toNat) rfl rfl (z_sn (fun h => absurd h.1 (by decide))) (fun b41 b42 => ?_)
          have hD := hD b41 b42
          show u_P L xs m d m_X12_canLeave 128 [(0, .ref 100), (1, .int x1), (2, .int x2), (3, .int x3)] [.int (S 154 x2.toInt.toNat), .int (S 99 101), .ref 100] (z_s S 99 100 ((S 99 100) + (Int32.ofInt 1))) R _
          refine u_st rfl (fun _ => rfl) ?_
          show u_P L xs m d m_X12_canLeave 129 [(0, .ref 100), (1, .int x1), (2, .int x2), (3, .int x3)] [.int (Int32.ofInt 4), .int (S 154 x2.toInt.toNat), .int (S 99 101), .ref 100] (z_s S 99 100 ((S 99 100) + (Int32.ofInt 1))) R _
          refine u_ic_ne rfl (fun _ => ?_) (fun h5 => absurd h3 h5)
          show u_P L xs m d m_X12_canLeave 136 [(0, .ref 100), (1, .int x1), (2, .int x2), (3, .int x3)] [.int (S 99 101), .ref 100] (z_s S 99 100 ((S 99 100) + (Int32.ofInt 1))) R _
          refine u_st rfl (fun _ => rfl) ?_
          show u_P L xs m d m_X12_canLeave 137 [(0, .ref 100), (1, .int x1), (2, .int x2), (3, .int x3)] [.ref 100, .int (S 99 101), .ref 100] (z_s S 99 100 ((S 99 100) + (Int32.ofInt 1))) R _
          refine u_getr rfl v_tyM rfl ?_
          refine u_st rfl (fun _ => rfl) ?_
          show u_P L xs m d m_X12_canLeave 141 [(0, .ref 100), (1, .int x1), (2, .int x2), (3, .int x3)] [.ref 100, .ref 118, .int (S 99 101), .ref 100] (z_s S 99 100 ((S 99 100) + (Int32.ofInt 1))) R _
          refine u_getr rfl v_tyM rfl ?_
          refine u_st rfl (fun _ => rfl) ?_
          show u_P L xs m d m_X12_canLeave 145 [(0, .ref 100), (1, .int x1), (2, .int x2), (3, .int x3)] [.int x2, .ref 153, .ref 118, .int (S 99 101), .ref 100] (z_s S 99 100 ((S 99 100) + (Int32.ofInt 1))) R _
          refine u_ialdE (v := S 152 x2.toInt.toNat) rfl rfl (z_sn (fun h => absurd h.1 (by decide))) (fun b61 b62 => ?_)
          have hD := hD b61 b62
          show u_P L xs m d m_X12_canLeave 146 [(0, .ref 100), (1, .int x1), (2, .int x2), (3, .int x3)] [.int (S 152 x2.toInt.toNat), .ref 118, .int (S 99 101), .ref 100] (z_s S 99 100 ((S 99 100) + (Int32.ofInt 1))) R _
          refine u_ialdE (v := S 117 ((S 152 x2.toInt.toNat).toInt.toNat)) rfl rfl (z_sn (fun h => absurd h.1 (by decide))) (fun b71 b72 => ?_)
          have hD := hD b71 b72
          show u_P L xs m d m_X12_canLeave 147 [(0, .ref 100), (1, .int x1), (2, .int x2), (3, .int x3)] [.int (S 117 ((S 152 x2.toInt.toNat).toInt.toNat)), .int (S 99 101), .ref 100] (z_s S 99 100 ((S 99 100) + (Int32.ofInt 1))) R _
          refine u_st rfl (fun _ => rfl) ?_
          show u_P L xs m d m_X12_canLeave 148 [(0, .ref 100), (1, .int x1), (2, .int x2), (3, .int x3)] [.int ((S 99 101) + (S 117 ((S 152 x2.toInt.toNat).toInt.toNat))), .ref 100] (z_s S 99 100 ((S 99 100) + (Int32.ofInt 1))) R _
          refine u_put rfl v_tyM rfl ?_
          refine u_st rfl (fun _ => rfl) ?_
          refine u_st rfl (fun _ => rfl) ?_
          refine u_lc (b := [(0, .ref 100), (1, .int x1), (2, .int (x2 + (Int32.ofInt 1))), (3, .int x3)]) (show ([2, 0, 1, 3] : List Nat).Nodup by decide) (show ([0, 1, 2, 3] : List Nat).Nodup by decide) (fun i => match i with | 0 => rfl | 1 => rfl | 2 => rfl | 3 => rfl | _ + 4 => rfl) ?_
          exact (ih m hm).2.1 d x3 x1 (x2 + (Int32.ofInt 1)) (z_s (z_s S 99 100 ((S 99 100) + (Int32.ofInt 1))) 99 101 ((S 99 101) + (S 117 ((S 152 x2.toInt.toNat).toInt.toNat)))) hD
        · have hD := hD.2 h3
          show u_P L xs m d m_X12_canLeave 108 [(0, .ref 100), (1, .int x1), (2, .int x2), (3, .int x3)] [.int (S 99 100), .ref 100] S R _
          refine u_st rfl (fun _ => rfl) ?_
          refine u_st rfl (fun _ => rfl) ?_
          refine u_st rfl (fun _ => rfl) ?_
          show u_P L xs m d m_X12_canLeave 114 [(0, .ref 100), (1, .int x1), (2, .int x2), (3, .int x3)] [.int ((S 99 100) + (Int32.ofInt 0)), .ref 100] S R _
          refine u_put rfl v_tyM rfl ?_
          refine u_st rfl (fun _ => rfl) ?_
          refine u_st rfl (fun _ => rfl) ?_
          show u_P L xs m d m_X12_canLeave 119 [(0, .ref 100), (1, .int x1), (2, .int x2), (3, .int x3)] [.ref 100, .ref 100] (z_s S 99 100 ((S 99 100) + (Int32.ofInt 0))) R _
          refine u_getE (v := S 99 101) rfl v_tyM rfl (z_sn (fun h => absurd h.2 (by decide))) ?_
          refine u_st rfl (fun _ => rfl) ?_
          show u_P L xs m d m_X12_canLeave 123 [(0, .ref 100), (1, .int x1), (2, .int x2), (3, .int x3)] [.ref 100, .int (S 99 101), .ref 100] (z_s S 99 100 ((S 99 100) + (Int32.ofInt 0))) R _
          refine u_getr rfl v_tyM rfl ?_
          refine u_st rfl (fun _ => rfl) ?_
          show u_P L xs m d m_X12_canLeave 127 [(0, .ref 100), (1, .int x1), (2, .int x2), (3, .int x3)] [.int x2, .ref 155, .int (S 99 101), .ref 100] (z_s S 99 100 ((S 99 100) + (Int32.ofInt 0))) R _
          refine u_ialdE (v := S 154 x2.toInt.toNat) rfl rfl (z_sn (fun h => absurd h.1 (by decide))) (fun b81 b82 => ?_)
          have hD := hD b81 b82
          show u_P L xs m d m_X12_canLeave 128 [(0, .ref 100), (1, .int x1), (2, .int x2), (3, .int x3)] [.int (S 154 x2.toInt.toNat), .int (S 99 101), .ref 100] (z_s S 99 100 ((S 99 100) + (Int32.ofInt 0))) R _
          refine u_st rfl (fun _ => rfl) ?_
          show u_P L xs m d m_X12_canLeave 129 [(0, .ref 100), (1, .int x1), (2, .int x2), (3, .int x3)] [.int (Int32.ofInt 4), .int (S 154 x2.toInt.toNat), .int (S 99 101), .ref 100] (z_s S 99 100 ((S 99 100) + (Int32.ofInt 0))) R _
          refine u_ic_ne rfl (fun h9 => absurd (Classical.not_not.mp h3) h9) (fun _ => ?_)
          show u_P L xs m d m_X12_canLeave 132 [(0, .ref 100), (1, .int x1), (2, .int x2), (3, .int x3)] [.int (S 99 101), .ref 100] (z_s S 99 100 ((S 99 100) + (Int32.ofInt 0))) R _
          refine u_st rfl (fun _ => rfl) ?_
          refine u_st rfl (fun _ => rfl) ?_
          refine u_st rfl (fun _ => rfl) ?_
          show u_P L xs m d m_X12_canLeave 148 [(0, .ref 100), (1, .int x1), (2, .int x2), (3, .int x3)] [.int ((S 99 101) + (Int32.ofInt 0)), .ref 100] (z_s S 99 100 ((S 99 100) + (Int32.ofInt 0))) R _
          refine u_put rfl v_tyM rfl ?_
          refine u_st rfl (fun _ => rfl) ?_
          refine u_st rfl (fun _ => rfl) ?_
          refine u_lc (b := [(0, .ref 100), (1, .int x1), (2, .int (x2 + (Int32.ofInt 1))), (3, .int x3)]) (show ([2, 0, 1, 3] : List Nat).Nodup by decide) (show ([0, 1, 2, 3] : List Nat).Nodup by decide) (fun i => match i with | 0 => rfl | 1 => rfl | 2 => rfl | 3 => rfl | _ + 4 => rfl) ?_
          exact (ih m hm).2.1 d x3 x1 (x2 + (Int32.ofInt 1)) (z_s (z_s S 99 100 ((S 99 100) + (Int32.ofInt 0))) 99 101 ((S 99 101) + (Int32.ofInt 0))) hD
      · have hD := hD.2 h1
        show u_P L xs m d m_X12_canLeave 45 [(0, .ref 100), (1, .int x1), (2, .int x2), (3, .int x3)] [] S R _
        refine u_st rfl (fun _ => rfl) ?_
        show u_P L xs m d m_X12_canLeave 46 [(0, .ref 100), (1, .int x1), (2, .int x2), (3, .int x3)] [.ref 100] S R _
        refine u_getr rfl v_tyM rfl ?_
        refine u_st rfl (fun _ => rfl) ?_
        show u_P L xs m d m_X12_canLeave 50 [(0, .ref 100), (1, .int x1), (2, .int x2), (3, .int x3)] [.ref 100, .ref 122] S R _
        refine u_getr rfl v_tyM rfl ?_
        refine u_st rfl (fun _ => rfl) ?_
        show u_P L xs m d m_X12_canLeave 54 [(0, .ref 100), (1, .int x1), (2, .int x2), (3, .int x3)] [.int x3, .ref 153, .ref 122] S R _
        refine u_ialdE (v := S 152 x3.toInt.toNat) rfl rfl rfl (fun b101 b102 => ?_)
        have hD := hD b101 b102
        show u_P L xs m d m_X12_canLeave 55 [(0, .ref 100), (1, .int x1), (2, .int x2), (3, .int x3)] [.int (S 152 x3.toInt.toNat), .ref 122] S R _
        refine u_ialdE (v := S 121 ((S 152 x3.toInt.toNat).toInt.toNat)) rfl rfl rfl (fun b111 b112 => ?_)
        have hD := hD b111 b112
        show u_P L xs m d m_X12_canLeave 56 [(0, .ref 100), (1, .int x1), (2, .int x2), (3, .int x3)] [.int (S 121 ((S 152 x3.toInt.toNat).toInt.toNat))] S R _
        refine u_st rfl (fun _ => rfl) ?_
        show u_P L xs m d m_X12_canLeave 57 [(0, .ref 100), (1, .int x1), (2, .int x2), (3, .int x3)] [.ref 100, .int (S 121 ((S 152 x3.toInt.toNat).toInt.toNat))] S R _
        refine u_getr rfl v_tyM rfl ?_
        refine u_st rfl (fun _ => rfl) ?_
        show u_P L xs m d m_X12_canLeave 61 [(0, .ref 100), (1, .int x1), (2, .int x2), (3, .int x3)] [.ref 100, .ref 122, .int (S 121 ((S 152 x3.toInt.toNat).toInt.toNat))] S R _
        refine u_getr rfl v_tyM rfl ?_
        refine u_st rfl (fun _ => rfl) ?_
        show u_P L xs m d m_X12_canLeave 65 [(0, .ref 100), (1, .int x1), (2, .int x2), (3, .int x3)] [.int x2, .ref 153, .ref 122, .int (S 121 ((S 152 x3.toInt.toNat).toInt.toNat))] S R _
        refine u_ialdE (v := S 152 x2.toInt.toNat) rfl rfl rfl (fun b121 b122 => ?_)
        have hD := hD b121 b122
        show u_P L xs m d m_X12_canLeave 66 [(0, .ref 100), (1, .int x1), (2, .int x2), (3, .int x3)] [.int (S 152 x2.toInt.toNat), .ref 122, .int (S 121 ((S 152 x3.toInt.toNat).toInt.toNat))] S R _
        refine u_ialdE (v := S 121 ((S 152 x2.toInt.toNat).toInt.toNat)) rfl rfl rfl (fun b131 b132 => ?_)
        have hD := hD b131 b132
        show u_P L xs m d m_X12_canLeave 67 [(0, .ref 100), (1, .int x1), (2, .int x2), (3, .int x3)] [.int (S 121 ((S 152 x2.toInt.toNat).toInt.toNat)), .int (S 121 ((S 152 x3.toInt.toNat).toInt.toNat))] S R _
        refine u_ic_ne rfl (fun h14 => ?_) (fun h14 => ?_)
        · have hD := hD.1 h14
          show u_P L xs m d m_X12_canLeave 87 [(0, .ref 100), (1, .int x1), (2, .int x2), (3, .int x3)] [] S R _
          refine u_st rfl (fun _ => rfl) ?_
          refine u_st rfl (fun _ => rfl) ?_
          refine u_lc (b := [(0, .ref 100), (1, .int x1), (2, .int x2), (3, .int (x3 + (Int32.ofInt 1)))]) (show ([3, 0, 1, 2] : List Nat).Nodup by decide) (show ([0, 1, 2, 3] : List Nat).Nodup by decide) (fun i => match i with | 0 => rfl | 1 => rfl | 2 => rfl | 3 => rfl | _ + 4 => rfl) ?_
          exact (ih m hm).2.2.1 d x1 x2 (x3 + (Int32.ofInt 1)) S hD
        · have hD := hD.2 h14
          show u_P L xs m d m_X12_canLeave 70 [(0, .ref 100), (1, .int x1), (2, .int x2), (3, .int x3)] [] S R _
          refine u_st rfl (fun _ => rfl) ?_
          show u_P L xs m d m_X12_canLeave 71 [(0, .ref 100), (1, .int x1), (2, .int x2), (3, .int x3)] [.ref 100] S R _
          refine u_getr rfl v_tyM rfl ?_
          refine u_st rfl (fun _ => rfl) ?_
          show u_P L xs m d m_X12_canLeave 75 [(0, .ref 100), (1, .int x1), (2, .int x2), (3, .int x3)] [.int x3, .ref 155] S R _
          refine u_ialdE (v := S 154 x3.toInt.toNat) rfl rfl rfl (fun b151 b152 => ?_)
          have hD := hD b151 b152
          show u_P L xs m d m_X12_canLeave 76 [(0, .ref 100), (1, .int x1), (2, .int x2), (3, .int x3)] [.int (S 154 x3.toInt.toNat)] S R _
          refine u_st rfl (fun _ => rfl) ?_
          show u_P L xs m d m_X12_canLeave 77 [(0, .ref 100), (1, .int x1), (2, .int x2), (3, .int x3)] [.ref 100, .int (S 154 x3.toInt.toNat)] S R _
          refine u_getr rfl v_tyM rfl ?_
          refine u_st rfl (fun _ => rfl) ?_
          show u_P L xs m d m_X12_canLeave 81 [(0, .ref 100), (1, .int x1), (2, .int x2), (3, .int x3)] [.int x2, .ref 155, .int (S 154 x3.toInt.toNat)] S R _
          refine u_ialdE (v := S 154 x2.toInt.toNat) rfl rfl rfl (fun b161 b162 => ?_)
          have hD := hD b161 b162
          show u_P L xs m d m_X12_canLeave 82 [(0, .ref 100), (1, .int x1), (2, .int x2), (3, .int x3)] [.int (S 154 x2.toInt.toNat), .int (S 154 x3.toInt.toNat)] S R _
          refine u_ic_eq rfl (fun h17 => ?_) (fun h17 => ?_)
          · have hD := hD.1 h17
            show u_P L xs m d m_X12_canLeave 87 [(0, .ref 100), (1, .int x1), (2, .int x2), (3, .int x3)] [] S R _
            refine u_st rfl (fun _ => rfl) ?_
            refine u_st rfl (fun _ => rfl) ?_
            refine u_lc (b := [(0, .ref 100), (1, .int x1), (2, .int x2), (3, .int (x3 + (Int32.ofInt 1)))]) (show ([3, 0, 1, 2] : List Nat).Nodup by decide) (show ([0, 1, 2, 3] : List Nat).Nodup by decide) (fun i => match i with | 0 => rfl | 1 => rfl | 2 => rfl | 3 => rfl | _ + 4 => rfl) ?_
            exact (ih m hm).2.2.1 d x1 x2 (x3 + (Int32.ofInt 1)) S hD
          · have hD := hD.2 h17
            show u_P L xs m d m_X12_canLeave 85 [(0, .ref 100), (1, .int x1), (2, .int x2), (3, .int x3)] [] S R _
            refine u_st rfl (fun _ => rfl) ?_
            show u_P L xs m d m_X12_canLeave 86 [(0, .ref 100), (1, .int x1), (2, .int x2), (3, .int x3)] [.int (Int32.ofInt 0)] S R _
            exact u_retb rfl rfl ⟨_, rfl, rfl, hD⟩
    · intro d x1 x2 S hD
      have hD := k159 x1 x2 S hD
      unfold D_X12_canLeave_159 at hD
      show u_P L xs n d m_X12_canLeave 159 [(0, .ref 100), (1, .int x1), (2, .int x2)] [] S R _
      refine u_st1 rfl (fun _ => rfl) (fun m hm => ?_)
      refine u_st rfl (fun _ => rfl) ?_
      show u_P L xs m d m_X12_canLeave 161 [(0, .ref 100), (1, .int x1), (2, .int x2)] [.int (Int32.ofInt 4), .int x2] S R _
      refine u_ic_ge rfl (fun h1 => ?_) (fun h1 => ?_)
      · have hD := hD.1 h1
        show u_P L xs m d m_X12_canLeave 238 [(0, .ref 100), (1, .int x1), (2, .int x2)] [] S R _
        refine u_st rfl (fun _ => rfl) ?_
        show u_P L xs m d m_X12_canLeave 239 [(0, .ref 100), (1, .int x1), (2, .int x2)] [.int (Int32.ofInt 1)] S R _
        exact u_retb rfl rfl ⟨_, rfl, rfl, hD⟩
      · have hD := hD.2 h1
        show u_P L xs m d m_X12_canLeave 164 [(0, .ref 100), (1, .int x1), (2, .int x2)] [] S R _
        refine u_st rfl (fun _ => rfl) ?_
        refine u_st rfl (fun _ => rfl) ?_
        refine u_st rfl (fun _ => rfl) ?_
        refine u_st rfl (fun _ => rfl) ?_
        refine u_lc (b := [(0, .ref 100), (1, .int x1), (2, .int x2), (3, .int (Int32.ofInt 0)), (4, .int (Int32.ofInt 0))]) (show ([4, 3, 0, 1, 2] : List Nat).Nodup by decide) (show ([0, 1, 2, 3, 4] : List Nat).Nodup by decide) (fun i => match i with | 0 => rfl | 1 => rfl | 2 => rfl | 3 => rfl | 4 => rfl | _ + 5 => rfl) ?_
        exact (ih m hm).2.2.2.2.2.2 d x1 x2 (Int32.ofInt 0) (Int32.ofInt 0) S hD
    · intro d j3 j4 x1 x2 S hD
      have hD := k159 x1 x2 S hD
      unfold D_X12_canLeave_159 at hD
      show u_P L xs n d m_X12_canLeave 159 [(0, .ref 100), (1, .int x1), (2, .int x2), (3, .int j3), (4, .int j4)] [] S R _
      refine u_st1 rfl (fun _ => rfl) (fun m hm => ?_)
      refine u_st rfl (fun _ => rfl) ?_
      show u_P L xs m d m_X12_canLeave 161 [(0, .ref 100), (1, .int x1), (2, .int x2), (3, .int j3), (4, .int j4)] [.int (Int32.ofInt 4), .int x2] S R _
      refine u_ic_ge rfl (fun h1 => ?_) (fun h1 => ?_)
      · have hD := hD.1 h1
        show u_P L xs m d m_X12_canLeave 238 [(0, .ref 100), (1, .int x1), (2, .int x2), (3, .int j3), (4, .int j4)] [] S R _
        refine u_st rfl (fun _ => rfl) ?_
        show u_P L xs m d m_X12_canLeave 239 [(0, .ref 100), (1, .int x1), (2, .int x2), (3, .int j3), (4, .int j4)] [.int (Int32.ofInt 1)] S R _
        exact u_retb rfl rfl ⟨_, rfl, rfl, hD⟩
      · have hD := hD.2 h1
        show u_P L xs m d m_X12_canLeave 164 [(0, .ref 100), (1, .int x1), (2, .int x2), (3, .int j3), (4, .int j4)] [] S R _
        refine u_st rfl (fun _ => rfl) ?_
        refine u_st rfl (fun _ => rfl) ?_
        refine u_st rfl (fun _ => rfl) ?_
        refine u_st rfl (fun _ => rfl) ?_
        refine u_lc (b := [(0, .ref 100), (1, .int x1), (2, .int x2), (3, .int (Int32.ofInt 0)), (4, .int (Int32.ofInt 0))]) (show ([4, 3, 0, 1, 2] : List Nat).Nodup by decide) (show ([0, 1, 2, 3, 4] : List Nat).Nodup by decide) (fun i => match i with | 0 => rfl | 1 => rfl | 2 => rfl | 3 => rfl | 4 => rfl | _ + 5 => rfl) ?_
        exact (ih m hm).2.2.2.2.2.2 d x1 x2 (Int32.ofInt 0) (Int32.ofInt 0) S hD
    · intro d j3 x1 x2 S hD
      have hD := k159 x1 x2 S hD
      unfold D_X12_canLeave_159 at hD
      show u_P L xs n d m_X12_canLeave 159 [(0, .ref 100), (1, .int x1), (2, .int x2), (3, .int j3)] [] S R _
      refine u_st1 rfl (fun _ => rfl) (fun m hm => ?_)
      refine u_st rfl (fun _ => rfl) ?_
      show u_P L xs m d m_X12_canLeave 161 [(0, .ref 100), (1, .int x1), (2, .int x2), (3, .int j3)] [.int (Int32.ofInt 4), .int x2] S R _
      refine u_ic_ge rfl (fun h1 => ?_) (fun h1 => ?_)
      · have hD := hD.1 h1
        show u_P L xs m d m_X12_canLeave 238 [(0, .ref 100), (1, .int x1), (2, .int x2), (3, .int j3)] [] S R _
        refine u_st rfl (fun _ => rfl) ?_
        show u_P L xs m d m_X12_canLeave 239 [(0, .ref 100), (1, .int x1), (2, .int x2), (3, .int j3)] [.int (Int32.ofInt 1)] S R _
        exact u_retb rfl rfl ⟨_, rfl, rfl, hD⟩
      · have hD := hD.2 h1
        show u_P L xs m d m_X12_canLeave 164 [(0, .ref 100), (1, .int x1), (2, .int x2), (3, .int j3)] [] S R _
        refine u_st rfl (fun _ => rfl) ?_
        refine u_st rfl (fun _ => rfl) ?_
        refine u_st rfl (fun _ => rfl) ?_
        refine u_st rfl (fun _ => rfl) ?_
        refine u_lc (b := [(0, .ref 100), (1, .int x1), (2, .int x2), (3, .int (Int32.ofInt 0)), (4, .int (Int32.ofInt 0))]) (show ([4, 3, 0, 1, 2] : List Nat).Nodup by decide) (show ([0, 1, 2, 3, 4] : List Nat).Nodup by decide) (fun i => match i with | 0 => rfl | 1 => rfl | 2 => rfl | 3 => rfl | 4 => rfl | _ + 5 => rfl) ?_
        exact (ih m hm).2.2.2.2.2.2 d x1 x2 (Int32.ofInt 0) (Int32.ofInt 0) S hD
    · intro d x1 x2 x3 x4 S hD
      have hD := k169 x1 x2 x3 x4 S hD
      unfold D_X12_canLeave_169 at hD
      show u_P L xs n d m_X12_canLeave 169 [(0, .ref 100), (1, .int x1), (2, .int x2), (3, .int x3), (4, .int x4)] [] S R _
      refine u_st1 rfl (fun _ => rfl) (fun m hm => ?_)
      refine u_st rfl (fun _ => rfl) ?_
      show u_P L xs m d m_X12_canLeave 172 [(0, .ref 100), (1, .int x1), (2, .int x2), (3, .int x3), (4, .int x4)] [.int x1, .int x4] S R _
      refine u_ic_ge rfl (fun h1 => ?_) (fun h1 => ?_)
      · have hD := hD.1 h1
        show u_P L xs m d m_X12_canLeave 211 [(0, .ref 100), (1, .int x1), (2, .int x2), (3, .int x3), (4, .int x4)] [] S R _
        refine u_st rfl (fun _ => rfl) ?_
        show u_P L xs m d m_X12_canLeave 212 [(0, .ref 100), (1, .int x1), (2, .int x2), (3, .int x3), (4, .int x4)] [.ref 100] S R _
        refine u_getr rfl v_tyM rfl ?_
        refine u_st rfl (fun _ => rfl) ?_
        show u_P L xs m d m_X12_canLeave 216 [(0, .ref 100), (1, .int x1), (2, .int x2), (3, .int x3), (4, .int x4)] [.int x2, .ref 157] S R _
        refine u_baldE (v := S 156 x2.toInt.toNat) rfl rfl (by decide) rfl (fun b21 b22 => ?_)
        have hD := hD b21 b22
        show u_P L xs m d m_X12_canLeave 217 [(0, .ref 100), (1, .int x1), (2, .int x2), (3, .int x3), (4, .int x4)] [.int (S 156 x2.toInt.toNat)] S R _
        refine u_if_eq rfl (fun h3 => ?_) (fun h3 => ?_)
        · have hD := hD.1 h3
          show u_P L xs m d m_X12_canLeave 232 [(0, .ref 100), (1, .int x1), (2, .int x2), (3, .int x3), (4, .int x4)] [] S R _
          refine u_st rfl (fun _ => rfl) ?_
          refine u_st rfl (fun _ => rfl) ?_
          refine u_lc (b := [(0, .ref 100), (1, .int x1), (2, .int (x2 + (Int32.ofInt 1))), (3, .int x3), (4, .int x4)]) (show ([2, 0, 1, 3, 4] : List Nat).Nodup by decide) (show ([0, 1, 2, 3, 4] : List Nat).Nodup by decide) (fun i => match i with | 0 => rfl | 1 => rfl | 2 => rfl | 3 => rfl | 4 => rfl | _ + 5 => rfl) ?_
          exact (ih m hm).2.2.2.2.1 d x3 x4 x1 (x2 + (Int32.ofInt 1)) S hD
        · have hD := hD.2 h3
          show u_P L xs m d m_X12_canLeave 220 [(0, .ref 100), (1, .int x1), (2, .int x2), (3, .int x3), (4, .int x4)] [] S R _
          refine u_st rfl (fun _ => rfl) ?_
          refine u_st rfl (fun _ => rfl) ?_
          show u_P L xs m d m_X12_canLeave 222 [(0, .ref 100), (1, .int x1), (2, .int x2), (3, .int x3), (4, .int x4)] [.ref 100, .int x3] S R _
          refine u_getr rfl v_tyM rfl ?_
          refine u_st rfl (fun _ => rfl) ?_
          show u_P L xs m d m_X12_canLeave 226 [(0, .ref 100), (1, .int x1), (2, .int x2), (3, .int x3), (4, .int x4)] [.int x2, .ref 159, .int x3] S R _
          refine u_ialdE (v := S 158 x2.toInt.toNat) rfl rfl rfl (fun b41 b42 => ?_)
          have hD := hD b41 b42
          show u_P L xs m d m_X12_canLeave 227 [(0, .ref 100), (1, .int x1), (2, .int x2), (3, .int x3), (4, .int x4)] [.int (S 158 x2.toInt.toNat), .int x3] S R _
          refine u_ic_le rfl (fun h5 => ?_) (fun h5 => ?_)
          · have hD := hD.1 h5
            show u_P L xs m d m_X12_canLeave 232 [(0, .ref 100), (1, .int x1), (2, .int x2), (3, .int x3), (4, .int x4)] [] S R _
            refine u_st rfl (fun _ => rfl) ?_
            refine u_st rfl (fun _ => rfl) ?_
            refine u_lc (b := [(0, .ref 100), (1, .int x1), (2, .int (x2 + (Int32.ofInt 1))), (3, .int x3), (4, .int x4)]) (show ([2, 0, 1, 3, 4] : List Nat).Nodup by decide) (show ([0, 1, 2, 3, 4] : List Nat).Nodup by decide) (fun i => match i with | 0 => rfl | 1 => rfl | 2 => rfl | 3 => rfl | 4 => rfl | _ + 5 => rfl) ?_
            exact (ih m hm).2.2.2.2.1 d x3 x4 x1 (x2 + (Int32.ofInt 1)) S hD
          · have hD := hD.2 h5
            show u_P L xs m d m_X12_canLeave 230 [(0, .ref 100), (1, .int x1), (2, .int x2), (3, .int x3), (4, .int x4)] [] S R _
            refine u_st rfl (fun _ => rfl) ?_
            show u_P L xs m d m_X12_canLeave 231 [(0, .ref 100), (1, .int x1), (2, .int x2), (3, .int x3), (4, .int x4)] [.int (Int32.ofInt 0)] S R _
            exact u_retb rfl rfl ⟨_, rfl, rfl, hD⟩
      · have hD := hD.2 h1
        show u_P L xs m d m_X12_canLeave 175 [(0, .ref 100), (1, .int x1), (2, .int x2), (3, .int x3), (4, .int x4)] [] S R _
        refine u_st rfl (fun _ => rfl) ?_
        refine u_st rfl (fun _ => rfl) ?_
        show u_P L xs m d m_X12_canLeave 177 [(0, .ref 100), (1, .int x1), (2, .int x2), (3, .int x3), (4, .int x4)] [.ref 100, .int x3] S R _
        refine u_getr rfl v_tyM rfl ?_
        refine u_st rfl (fun _ => rfl) ?_
        show u_P L xs m d m_X12_canLeave 182 [(0, .ref 100), (1, .int x1), (2, .int x2), (3, .int x3), (4, .int x4)] [.int x4, .ref 155, .int x3] S R _
        refine u_ialdE (v := S 154 x4.toInt.toNat) rfl rfl rfl (fun b61 b62 => ?_)
        have hD := hD b61 b62
        show u_P L xs m d m_X12_canLeave 183 [(0, .ref 100), (1, .int x1), (2, .int x2), (3, .int x3), (4, .int x4)] [.int (S 154 x4.toInt.toNat), .int x3] S R _
        refine u_st rfl (fun _ => rfl) ?_
        show u_P L xs m d m_X12_canLeave 184 [(0, .ref 100), (1, .int x1), (2, .int x2), (3, .int x3), (4, .int x4)] [.int x2, .int (S 154 x4.toInt.toNat), .int x3] S R _
        refine u_ic_ne rfl (fun h7 => ?_) (fun h7 => ?_)
        · have hD := hD.1 h7
          show u_P L xs m d m_X12_canLeave 202 [(0, .ref 100), (1, .int x1), (2, .int x2), (3, .int x3), (4, .int x4)] [.int x3] S R _
          refine u_st rfl (fun _ => rfl) ?_
          refine u_st rfl (fun _ => rfl) ?_
          refine u_st rfl (fun _ => rfl) ?_
          refine u_st rfl (fun _ => rfl) ?_
          refine u_st rfl (fun _ => rfl) ?_
          refine u_lc (b := [(0, .ref 100), (1, .int x1), (2, .int x2), (3, .int (x3 + (Int32.ofInt 0))), (4, .int (x4 + (Int32.ofInt 1)))]) (show ([4, 3, 0, 1, 2] : List Nat).Nodup by decide) (show ([0, 1, 2, 3, 4] : List Nat).Nodup by decide) (fun i => match i with | 0 => rfl | 1 => rfl | 2 => rfl | 3 => rfl | 4 => rfl | _ + 5 => rfl) ?_
          exact (ih m hm).2.2.2.2.2.2 d x1 x2 (x3 + (Int32.ofInt 0)) (x4 + (Int32.ofInt 1)) S hD
        · have hD := hD.2 h7
          show u_P L xs m d m_X12_canLeave 187 [(0, .ref 100), (1, .int x1), (2, .int x2), (3, .int x3), (4, .int x4)] [.int x3] S R _
          refine u_st rfl (fun _ => rfl) ?_
          show u_P L xs m d m_X12_canLeave 188 [(0, .ref 100), (1, .int x1), (2, .int x2), (3, .int x3), (4, .int x4)] [.ref 100, .int x3] S R _
          refine u_getr rfl v_tyM rfl ?_
          refine u_st rfl (fun _ => rfl) ?_
          show u_P L xs m d m_X12_canLeave 192 [(0, .ref 100), (1, .int x1), (2, .int x2), (3, .int x3), (4, .int x4)] [.ref 100, .ref 118, .int x3] S R _
          refine u_getr rfl v_tyM rfl ?_
          refine u_st rfl (fun _ => rfl) ?_
          show u_P L xs m d m_X12_canLeave 197 [(0, .ref 100), (1, .int x1), (2, .int x2), (3, .int x3), (4, .int x4)] [.int x4, .ref 153, .ref 118, .int x3] S R _
          refine u_ialdE (v := S 152 x4.toInt.toNat) rfl rfl rfl (fun b81 b82 => ?_)
          have hD := hD b81 b82
          show u_P L xs m d m_X12_canLeave 198 [(0, .ref 100), (1, .int x1), (2, .int x2), (3, .int x3), (4, .int x4)] [.int (S 152 x4.toInt.toNat), .ref 118, .int x3] S R _
          refine u_ialdE (v := S 117 ((S 152 x4.toInt.toNat).toInt.toNat)) rfl rfl rfl (fun b91 b92 => ?_)
          have hD := hD b91 b92
          show u_P L xs m d m_X12_canLeave 199 [(0, .ref 100), (1, .int x1), (2, .int x2), (3, .int x3), (4, .int x4)] [.int (S 117 ((S 152 x4.toInt.toNat).toInt.toNat)), .int x3] S R _
          refine u_st rfl (fun _ => rfl) ?_
          refine u_st rfl (fun _ => rfl) ?_
          refine u_st rfl (fun _ => rfl) ?_
          refine u_st rfl (fun _ => rfl) ?_
          refine u_st rfl (fun _ => rfl) ?_
          refine u_lc (b := [(0, .ref 100), (1, .int x1), (2, .int x2), (3, .int (x3 + (S 117 ((S 152 x4.toInt.toNat).toInt.toNat)))), (4, .int (x4 + (Int32.ofInt 1)))]) (show ([4, 3, 0, 1, 2] : List Nat).Nodup by decide) (show ([0, 1, 2, 3, 4] : List Nat).Nodup by decide) (fun i => match i with | 0 => rfl | 1 => rfl | 2 => rfl | 3 => rfl | 4 => rfl | _ + 5 => rfl) ?_
          exact (ih m hm).2.2.2.2.2.2 d x1 x2 (x3 + (S 117 ((S 152 x4.toInt.toNat).toInt.toNat))) (x4 + (Int32.ofInt 1)) S hD
set_option maxRecDepth 4000 in
theorem w_X12_canLeave (L : Nat) (xs : Nat → Int32) {R : v_Rf} (a : Int32) (H12 : Int32 → Int32 → v_Sf → Prop) (H40 : Int32 → Int32 → Int32 → v_Sf → Prop) (H159 : Int32 → Int32 → v_Sf → Prop) (H169 : Int32 → Int32 → Int32 → Int32 → v_Sf → Prop) (K : Int32 → v_Sf → Prop) (k12 : ∀ (x1 : Int32) (x2 : Int32) (S : v_Sf), H12 x1 x2 S → D_X12_canLeave_12 H12 H40 H159 H169 K x1 x2 S) (k40 : ∀ (x1 : Int32) (x2 : Int32) (x3 : Int32) (S : v_Sf), H40 x1 x2 x3 S → D_X12_canLeave_40 H12 H40 H159 H169 K x1 x2 x3 S) (k159 : ∀ (x1 : Int32) (x2 : Int32) (S : v_Sf), H159 x1 x2 S → D_X12_canLeave_159 H12 H40 H159 H169 K x1 x2 S) (k169 : ∀ (x1 : Int32) (x2 : Int32) (x3 : Int32) (x4 : Int32) (S : v_Sf), H169 x1 x2 x3 x4 S → D_X12_canLeave_169 H12 H40 H159 H169 K x1 x2 x3 x4 S) (n d : Nat) (S : v_Sf) (hD : D_X12_canLeave a H12 H40 H159 H169 K S) : u_P L xs n d m_X12_canLeave 0 (lv_args 0 [.ref 100, .int a]) [] S R (z_Q R K) := by
  unfold D_X12_canLeave at hD
  show u_P L xs n d m_X12_canLeave 0 [(0, .ref 100), (1, .int a)] [] S R _
  refine u_st rfl (fun _ => rfl) ?_
  refine u_st rfl (fun _ => rfl) ?_
  show u_P L xs n d m_X12_canLeave 2 [(0, .ref 100), (1, .int a)] [.int (Int32.ofInt 0), .ref 100] S R _
  refine u_put rfl v_tyM rfl ?_
  refine u_st rfl (fun _ => rfl) ?_
  refine u_st rfl (fun _ => rfl) ?_
  show u_P L xs n d m_X12_canLeave 7 [(0, .ref 100), (1, .int a)] [.int (Int32.ofInt 0), .ref 100] (z_s S 99 100 (Int32.ofInt 0)) R _
  refine u_put rfl v_tyM rfl ?_
  refine u_st rfl (fun _ => rfl) ?_
  refine u_st rfl (fun _ => rfl) ?_
  refine u_lc (b := [(0, .ref 100), (1, .int a), (2, .int (Int32.ofInt 0))]) (show ([2, 0, 1] : List Nat).Nodup by decide) (show ([0, 1, 2] : List Nat).Nodup by decide) (fun i => match i with | 0 => rfl | 1 => rfl | 2 => rfl | _ + 3 => rfl) ?_
  exact (hd_X12_canLeave L xs a H12 H40 H159 H169 K k12 k40 k159 k169 n).1 d a (Int32.ofInt 0) (z_s (z_s S 99 100 (Int32.ofInt 0)) 99 101 (Int32.ofInt 0)) hD
noncomputable def r_X12_canLeave_169 (x1 : Int32) (κ159 : v_Sf → Int32 × v_Sf) (k159 : Nat) : Nat → Nat → Int32 → v_Sf → Int32 × v_Sf
  | 0, k169, x3, S => (if (S 156 (z_i k159).toInt.toNat) = 0 then κ159 S else (if x3 ≤ (S 158 (z_i k159).toInt.toNat) then κ159 S else (Int32.ofInt 0, S)))
  | r + 1, k169, x3, S => (if ¬ (S 154 (z_i k169).toInt.toNat) = (z_i k159) then r_X12_canLeave_169 x1 κ159 k159 r (k169 + 1) (x3 + (Int32.ofInt 0)) S else r_X12_canLeave_169 x1 κ159 k159 r (k169 + 1) (x3 + (S 117 ((S 152 (z_i k169).toInt.toNat).toInt.toNat))) S)
noncomputable def r_X12_canLeave_40 (x1 : Int32) (κ12 : v_Sf → Int32 × v_Sf) (k12 : Nat) : Nat → Nat → v_Sf → Int32 × v_Sf
  | 0, k40, S => (if ¬ (S 154 (z_i k12).toInt.toNat) = (Int32.ofInt 4) then κ12 (z_s (z_s S 99 100 ((S 99 100) + (Int32.ofInt 1))) 99 101 ((S 99 101) + (S 117 ((S 152 (z_i k12).toInt.toNat).toInt.toNat)))) else κ12 (z_s (z_s S 99 100 ((S 99 100) + (Int32.ofInt 0))) 99 101 ((S 99 101) + (Int32.ofInt 0))))
  | r + 1, k40, S => (if ¬ (S 121 ((S 152 (z_i k40).toInt.toNat).toInt.toNat)) = (S 121 ((S 152 (z_i k12).toInt.toNat).toInt.toNat)) then r_X12_canLeave_40 x1 κ12 k12 r (k40 + 1) S else (if (S 154 (z_i k40).toInt.toNat) = (S 154 (z_i k12).toInt.toNat) then r_X12_canLeave_40 x1 κ12 k12 r (k40 + 1) S else (Int32.ofInt 0, S)))
noncomputable def r_X12_canLeave_159 (x1 : Int32) : Nat → Nat → v_Sf → Int32 × v_Sf
  | 0, k159, S => (Int32.ofInt 1, S)
  | r + 1, k159, S => r_X12_canLeave_169 x1 (fun S => r_X12_canLeave_159 x1 r (k159 + 1) S) k159 (x1.toInt.toNat - 0) 0 (Int32.ofInt 0) S
noncomputable def r_X12_canLeave_12 (x1 : Int32) : Nat → Nat → v_Sf → Int32 × v_Sf
  | 0, k12, S => r_X12_canLeave_159 x1 (4 - 0) 0 S
  | r + 1, k12, S => (if ¬ (f_X12_canGo (S 152 (z_i k12).toInt.toNat) (S 154 (z_i k12).toInt.toNat) S) = 0 then r_X12_canLeave_40 x1 (fun S => r_X12_canLeave_12 x1 r (k12 + 1) S) k12 (k12 - 0) 0 S else (Int32.ofInt 0, S))
noncomputable def F_X12_canLeave (a : Int32) (S : v_Sf) : Int32 × v_Sf := r_X12_canLeave_12 a (a.toInt.toNat - 0) 0 (z_s (z_s S 99 100 (Int32.ofInt 0)) 99 101 (Int32.ofInt 0))
noncomputable def f_X12_canLeave (a : Int32) (S : v_Sf) : Int32 := (F_X12_canLeave a S).1
noncomputable def g_X12_canLeave (a : Int32) (S : v_Sf) : v_Sf := (F_X12_canLeave a S).2
theorem c_X12_canLeave (L : Nat) (xs : Nat → Int32) (n d : Nat) (a : Int32) (S : v_Sf) (R : v_Rf) : u_P L xs n d m_X12_canLeave 0 (lv_args 0 [.ref 100, .int a]) [] S R (z_Q R (fun v S1 => f_X12_canLeave a S = v ∧ g_X12_canLeave a S = S1)) := by
  refine w_X12_canLeave L xs a (fun y1 y2 T => ∃ (k12 : Nat), k12 ≤ a.toInt.toNat ∧ z_i k12 = y2 ∧ a = y1 ∧ r_X12_canLeave_12 a (a.toInt.toNat - k12) k12 T = F_X12_canLeave a S) (fun y1 y2 y3 T => ∃ (k12 k40 : Nat), k40 ≤ k12 ∧ z_i k40 = y3 ∧ k12 < a.toInt.toNat ∧ z_i k12 = y2 ∧ a = y1 ∧ r_X12_canLeave_40 a (fun V => r_X12_canLeave_12 a (a.toInt.toNat - (k12 + 1)) (k12 + 1) V) k12 (k12 - k40) k40 T = F_X12_canLeave a S) (fun y1 y2 T => ∃ (k159 : Nat), k159 ≤ 4 ∧ z_i k159 = y2 ∧ a = y1 ∧ r_X12_canLeave_159 a (4 - k159) k159 T = F_X12_canLeave a S) (fun y1 y2 y3 y4 T => ∃ (k159 k169 : Nat), k169 ≤ a.toInt.toNat ∧ z_i k169 = y4 ∧ k159 < 4 ∧ z_i k159 = y2 ∧ a = y1 ∧ r_X12_canLeave_169 a (fun V => r_X12_canLeave_159 a (4 - (k159 + 1)) (k159 + 1) V) k159 (a.toInt.toNat - k169) k169 y3 T = F_X12_canLeave a S) (fun v S1 => f_X12_canLeave a S = v ∧ g_X12_canLeave a S = S1) ?_ ?_ ?_ ?_ n d S ?_
  · rintro _ _ S1 ⟨k12, hkk, rfl, rfl, e⟩
    unfold D_X12_canLeave_12
    rcases Nat.lt_or_ge k12 (a.toInt.toNat) with hk | hk
    · rw [show a.toInt.toNat - k12 = (a.toInt.toNat - (k12 + 1)) + 1 by omega, r_X12_canLeave_12] at e
      refine ⟨fun q1 => ?_, fun q1 => ?_⟩
      · exact absurd hk (Nat.not_lt.mpr (z_leV q1 (by omega)))
      · intro _ _
        intro _ _
        refine ⟨fun q2 => ?_, fun q2 => ?_⟩
        · rw [if_pos q2] at e
          exact ⟨k12, 0, by omega, rfl, by omega, rfl, rfl, e⟩
        · rw [if_neg q2] at e
          have e1 := congrArg Prod.fst e.symm
          have e2 := congrArg Prod.snd e.symm
          exact ⟨e1, e2⟩
    · rw [show a.toInt.toNat - k12 = 0 by omega, r_X12_canLeave_12] at e
      refine ⟨fun q3 => ?_, fun q3 => ?_⟩
      · exact ⟨0, by omega, rfl, rfl, e⟩
      · exact absurd hk (Nat.not_le.mpr (z_ltV q3 (by omega)))
  · rintro _ _ _ S1 ⟨k12, k40, hkk, rfl, hk12, rfl, rfl, e⟩
    unfold D_X12_canLeave_40
    have hb12 := z_b31 a
    rcases Nat.lt_or_ge k40 (k12) with hk | hk
    · rw [show k12 - k40 = (k12 - (k40 + 1)) + 1 by omega, r_X12_canLeave_40] at e
      refine ⟨fun q4 => ?_, fun q4 => ?_⟩
      · exact absurd hk (Nat.not_lt.mpr (z_leI q4 (by omega) (by omega)))
      · intro _ _
        intro _ _
        intro _ _
        intro _ _
        refine ⟨fun q5 => ?_, fun q5 => ?_⟩
        · rw [if_pos q5] at e
          exact ⟨k12, (k40 + 1), by omega, (z_i1 k40).symm, by omega, rfl, rfl, e⟩
        · intro _ _
          intro _ _
          refine ⟨fun q6 => ?_, fun q6 => ?_⟩
          · rw [if_neg q5, if_pos q6] at e
            exact ⟨k12, (k40 + 1), by omega, (z_i1 k40).symm, by omega, rfl, rfl, e⟩
          · rw [if_neg q5, if_neg q6] at e
            have e1 := congrArg Prod.fst e.symm
            have e2 := congrArg Prod.snd e.symm
            exact ⟨e1, e2⟩
    · rw [show k12 - k40 = 0 by omega, r_X12_canLeave_40] at e
      refine ⟨fun q7 => ?_, fun q7 => ?_⟩
      · intro _ _
        refine ⟨fun q8 => ?_, fun q8 => ?_⟩
        · intro _ _
          intro _ _
          intro _ _
          rw [if_pos q8] at e
          exact ⟨(k12 + 1), by omega, (z_i1 k12).symm, rfl, e⟩
        · intro _ _
          rw [if_neg q8] at e
          exact ⟨(k12 + 1), by omega, (z_i1 k12).symm, rfl, e⟩
      · exact absurd hk (Nat.not_le.mpr (z_ltI q7 (by omega) (by omega)))
  · rintro _ _ S1 ⟨k159, hkk, rfl, rfl, e⟩
    unfold D_X12_canLeave_159
    rcases Nat.lt_or_ge k159 (4) with hk | hk
    · rw [show 4 - k159 = (4 - (k159 + 1)) + 1 by omega, r_X12_canLeave_159] at e
      refine ⟨fun q9 => ?_, fun q9 => ?_⟩
      · exact absurd hk (Nat.not_lt.mpr (z_leB2 (B := 4) q9 (by decide) (by omega)))
      · exact ⟨k159, 0, by omega, rfl, by omega, rfl, rfl, e⟩
    · rw [show 4 - k159 = 0 by omega, r_X12_canLeave_159] at e
      refine ⟨fun q10 => ?_, fun q10 => ?_⟩
      · have e1 := congrArg Prod.fst e.symm
        have e2 := congrArg Prod.snd e.symm
        exact ⟨e1, e2⟩
      · exact absurd hk (Nat.not_le.mpr (z_ltB2 (B := 4) q10 (by decide) (by omega)))
  · rintro _ _ x3 _ S1 ⟨k159, k169, hkk, rfl, hk159, rfl, rfl, e⟩
    unfold D_X12_canLeave_169
    rcases Nat.lt_or_ge k169 (a.toInt.toNat) with hk | hk
    · rw [show a.toInt.toNat - k169 = (a.toInt.toNat - (k169 + 1)) + 1 by omega, r_X12_canLeave_169] at e
      refine ⟨fun q11 => ?_, fun q11 => ?_⟩
      · exact absurd hk (Nat.not_lt.mpr (z_leV q11 (by omega)))
      · intro _ _
        refine ⟨fun q12 => ?_, fun q12 => ?_⟩
        · rw [if_pos q12] at e
          exact ⟨k159, (k169 + 1), by omega, (z_i1 k169).symm, by omega, rfl, rfl, e⟩
        · intro _ _
          intro _ _
          rw [if_neg q12] at e
          exact ⟨k159, (k169 + 1), by omega, (z_i1 k169).symm, by omega, rfl, rfl, e⟩
    · rw [show a.toInt.toNat - k169 = 0 by omega, r_X12_canLeave_169] at e
      refine ⟨fun q13 => ?_, fun q13 => ?_⟩
      · intro _ _
        refine ⟨fun q14 => ?_, fun q14 => ?_⟩
        · rw [if_pos q14] at e
          exact ⟨(k159 + 1), by omega, (z_i1 k159).symm, rfl, e⟩
        · intro _ _
          refine ⟨fun q15 => ?_, fun q15 => ?_⟩
          · rw [if_neg q14, if_pos q15] at e
            exact ⟨(k159 + 1), by omega, (z_i1 k159).symm, rfl, e⟩
          · rw [if_neg q14, if_neg q15] at e
            have e1 := congrArg Prod.fst e.symm
            have e2 := congrArg Prod.snd e.symm
            exact ⟨e1, e2⟩
      · exact absurd hk (Nat.not_le.mpr (z_ltV q13 (by omega)))
  · unfold D_X12_canLeave
    have e : r_X12_canLeave_12 a (a.toInt.toNat - 0) 0 (z_s (z_s S 99 100 (Int32.ofInt 0)) 99 101 (Int32.ofInt 0)) = F_X12_canLeave a S := by rw [F_X12_canLeave]
    exact ⟨0, by omega, rfl, rfl, e⟩
noncomputable abbrev m_X12_laysLeaving : g_M := (g_cn 12, yX12_laysLeaving, cX12_laysLeaving, 3, none, g_look2 ttX12_laysLeaving)
set_option maxRecDepth 20000 in
theorem mt_X12_laysLeaving : g_mt 263 = some m_X12_laysLeaving := rfl
noncomputable def D_X12_laysLeaving_12  (H12 : Int32 → Int32 → v_Sf → Prop) (K : v_Sf → Prop) (x1 : Int32) (x2 : Int32) (S : v_Sf) : Prop := (((f_X12_powerOf (Int32.ofInt 5) x1) ≤ x2 → K S) ∧ (¬ ((f_X12_powerOf (Int32.ofInt 5) x1) ≤ x2) → (((f_X12_canLeave x1 (g_X12_opensRow x2 x1 (Int32.ofInt 5) S)) = 0 → H12 x1 (x2 + (Int32.ofInt 1)) (g_X12_canLeave x1 (g_X12_opensRow x2 x1 (Int32.ofInt 5) S))) ∧ (¬ ((f_X12_canLeave x1 (g_X12_opensRow x2 x1 (Int32.ofInt 5) S)) = 0) → ((((g_X12_canLeave x1 (g_X12_opensRow x2 x1 (Int32.ofInt 5) S)) 99 100) < ((g_X12_canLeave x1 (g_X12_opensRow x2 x1 (Int32.ofInt 5) S)) 99 102) → H12 x1 (x2 + (Int32.ofInt 1)) (g_X12_canLeave x1 (g_X12_opensRow x2 x1 (Int32.ofInt 5) S))) ∧ (¬ (((g_X12_canLeave x1 (g_X12_opensRow x2 x1 (Int32.ofInt 5) S)) 99 100) < ((g_X12_canLeave x1 (g_X12_opensRow x2 x1 (Int32.ofInt 5) S)) 99 102)) → (((¬ ((g_X12_canLeave x1 (g_X12_opensRow x2 x1 (Int32.ofInt 5) S)) 99 100) = ((g_X12_canLeave x1 (g_X12_opensRow x2 x1 (Int32.ofInt 5) S)) 99 102)) → H12 x1 (x2 + (Int32.ofInt 1)) (g_X12_keepsRow x1 (z_s (z_s (g_X12_canLeave x1 (g_X12_opensRow x2 x1 (Int32.ofInt 5) S)) 99 102 ((g_X12_canLeave x1 (g_X12_opensRow x2 x1 (Int32.ofInt 5) S)) 99 100)) 99 103 ((g_X12_canLeave x1 (g_X12_opensRow x2 x1 (Int32.ofInt 5) S)) 99 101)))) ∧ (¬ (¬ ((g_X12_canLeave x1 (g_X12_opensRow x2 x1 (Int32.ofInt 5) S)) 99 100) = ((g_X12_canLeave x1 (g_X12_opensRow x2 x1 (Int32.ofInt 5) S)) 99 102)) → ((((g_X12_canLeave x1 (g_X12_opensRow x2 x1 (Int32.ofInt 5) S)) 99 103) < ((g_X12_canLeave x1 (g_X12_opensRow x2 x1 (Int32.ofInt 5) S)) 99 101) → H12 x1 (x2 + (Int32.ofInt 1)) (g_X12_keepsRow x1 (z_s (z_s (g_X12_canLeave x1 (g_X12_opensRow x2 x1 (Int32.ofInt 5) S)) 99 102 ((g_X12_canLeave x1 (g_X12_opensRow x2 x1 (Int32.ofInt 5) S)) 99 100)) 99 103 ((g_X12_canLeave x1 (g_X12_opensRow x2 x1 (Int32.ofInt 5) S)) 99 101)))) ∧ (¬ (((g_X12_canLeave x1 (g_X12_opensRow x2 x1 (Int32.ofInt 5) S)) 99 103) < ((g_X12_canLeave x1 (g_X12_opensRow x2 x1 (Int32.ofInt 5) S)) 99 101)) → H12 x1 (x2 + (Int32.ofInt 1)) (g_X12_canLeave x1 (g_X12_opensRow x2 x1 (Int32.ofInt 5) S))))))))))))
noncomputable def D_X12_laysLeaving (a : Int32) (H12 : Int32 → Int32 → v_Sf → Prop) (K : v_Sf → Prop) (S : v_Sf) : Prop := H12 a (Int32.ofInt 0) (z_s (z_s S 99 102 (Int32.ofInt (-1))) 99 103 (Int32.ofInt 0))
set_option maxRecDepth 4000 in
theorem hd_X12_laysLeaving (L : Nat) (xs : Nat → Int32) {R : v_Rf} (a : Int32) (H12 : Int32 → Int32 → v_Sf → Prop) (K : v_Sf → Prop) (k12 : ∀ (x1 : Int32) (x2 : Int32) (S : v_Sf), H12 x1 x2 S → D_X12_laysLeaving_12 H12 K x1 x2 S) : ∀ n, (∀ (d : Nat) (x1 : Int32) (x2 : Int32) (S : v_Sf), H12 x1 x2 S → u_P L xs n d m_X12_laysLeaving 12 [(0, .ref 100), (1, .int x1), (2, .int x2)] [] S R (z_V R K)) := by
  intro n
  induction n using Nat.strongRecOn with
  | ind n ih =>
    intro d x1 x2 S hD
    have hD := k12 x1 x2 S hD
    unfold D_X12_laysLeaving_12 at hD
    show u_P L xs n d m_X12_laysLeaving 12 [(0, .ref 100), (1, .int x1), (2, .int x2)] [] S R _
    refine u_st1 rfl (fun _ => rfl) (fun m hm => ?_)
    refine u_st rfl (fun _ => rfl) ?_
    refine u_st rfl (fun _ => rfl) ?_
    show u_P L xs m d m_X12_laysLeaving 15 [(0, .ref 100), (1, .int x1), (2, .int x2)] [.int x1, .int (Int32.ofInt 5), .int x2] S R _
    refine u_cs (ac := [.int (Int32.ofInt 5), .int x1]) (rest := [.int x2]) rfl (by decide) mt_X12_powerOf (fun _ => rfl) (Nat.le_of_ble_eq_true rfl) (Nat.le_of_ble_eq_true rfl) (fun d' => c_X12_powerOf L xs m d' (Int32.ofInt 5) x1 S R) ?_
    rintro _ _ _ ⟨_, rfl, rfl, rfl, rfl⟩
    show u_P L xs m d m_X12_laysLeaving 18 [(0, .ref 100), (1, .int x1), (2, .int x2)] [.int (f_X12_powerOf (Int32.ofInt 5) x1), .int x2] S R _
    refine u_ic_ge rfl (fun h1 => ?_) (fun h1 => ?_)
    · have hD := hD.1 h1
      show u_P L xs m d m_X12_laysLeaving 99 [(0, .ref 100), (1, .int x1), (2, .int x2)] [] S R _
      exact u_ret rfl rfl ⟨rfl, rfl, hD⟩
    · have hD := hD.2 h1
      show u_P L xs m d m_X12_laysLeaving 21 [(0, .ref 100), (1, .int x1), (2, .int x2)] [] S R _
      refine u_st rfl (fun _ => rfl) ?_
      refine u_st rfl (fun _ => rfl) ?_
      refine u_st rfl (fun _ => rfl) ?_
      refine u_st rfl (fun _ => rfl) ?_
      show u_P L xs m d m_X12_laysLeaving 25 [(0, .ref 100), (1, .int x1), (2, .int x2)] [.int (Int32.ofInt 5), .int x1, .int x2, .ref 100] S R _
      refine u_cv (rest := []) rfl (by decide) mt_X12_opensRow v_tyM rfl rfl rfl (Nat.le_of_ble_eq_true rfl) (Nat.le_of_ble_eq_true rfl) (Nat.le_of_ble_eq_true rfl) (fun d' => c_X12_opensRow L xs m d' x2 x1 (Int32.ofInt 5) S R) ?_
      rintro _ _ _ ⟨rfl, rfl, rfl⟩
      refine u_st rfl (fun _ => rfl) ?_
      refine u_st rfl (fun _ => rfl) ?_
      show u_P L xs m d m_X12_laysLeaving 30 [(0, .ref 100), (1, .int x1), (2, .int x2)] [.int x1, .ref 100] (g_X12_opensRow x2 x1 (Int32.ofInt 5) S) R _
      refine u_cv (rest := []) rfl (by decide) mt_X12_canLeave v_tyM rfl rfl rfl (Nat.le_of_ble_eq_true rfl) (Nat.le_of_ble_eq_true rfl) (Nat.le_of_ble_eq_true rfl) (fun d' => c_X12_canLeave L xs m d' x1 (g_X12_opensRow x2 x1 (Int32.ofInt 5) S) R) ?_
      rintro _ _ _ ⟨_, rfl, rfl, rfl, rfl⟩
      show u_P L xs m d m_X12_laysLeaving 33 [(0, .ref 100), (1, .int x1), (2, .int x2)] [.int (f_X12_canLeave x1 (g_X12_opensRow x2 x1 (Int32.ofInt 5) S))] (g_X12_canLeave x1 (g_X12_opensRow x2 x1 (Int32.ofInt 5) S)) R _
      refine u_if_eq rfl (fun h2 => ?_) (fun h2 => ?_)
      · have hD := hD.1 h2
        show u_P L xs m d m_X12_laysLeaving 93 [(0, .ref 100), (1, .int x1), (2, .int x2)] [] (g_X12_canLeave x1 (g_X12_opensRow x2 x1 (Int32.ofInt 5) S)) R _
        refine u_st rfl (fun _ => rfl) ?_
        refine u_st rfl (fun _ => rfl) ?_
        refine u_lc (b := [(0, .ref 100), (1, .int x1), (2, .int (x2 + (Int32.ofInt 1)))]) (show ([2, 0, 1] : List Nat).Nodup by decide) (show ([0, 1, 2] : List Nat).Nodup by decide) (fun i => match i with | 0 => rfl | 1 => rfl | 2 => rfl | _ + 3 => rfl) ?_
        exact (ih m hm) d x1 (x2 + (Int32.ofInt 1)) (g_X12_canLeave x1 (g_X12_opensRow x2 x1 (Int32.ofInt 5) S)) hD
      · have hD := hD.2 h2
        show u_P L xs m d m_X12_laysLeaving 36 [(0, .ref 100), (1, .int x1), (2, .int x2)] [] (g_X12_canLeave x1 (g_X12_opensRow x2 x1 (Int32.ofInt 5) S)) R _
        refine u_st rfl (fun _ => rfl) ?_
        show u_P L xs m d m_X12_laysLeaving 37 [(0, .ref 100), (1, .int x1), (2, .int x2)] [.ref 100] (g_X12_canLeave x1 (g_X12_opensRow x2 x1 (Int32.ofInt 5) S)) R _
        refine u_getE (v := (g_X12_canLeave x1 (g_X12_opensRow x2 x1 (Int32.ofInt 5) S)) 99 100) rfl v_tyM rfl rfl ?_
        refine u_st rfl (fun _ => rfl) ?_
        show u_P L xs m d m_X12_laysLeaving 41 [(0, .ref 100), (1, .int x1), (2, .int x2)] [.ref 100, .int ((g_X12_canLeave x1 (g_X12_opensRow x2 x1 (Int32.ofInt 5) S)) 99 100)] (g_X12_canLeave x1 (g_X12_opensRow x2 x1 (Int32.ofInt 5) S)) R _
        refine u_getE (v := (g_X12_canLeave x1 (g_X12_opensRow x2 x1 (Int32.ofInt 5) S)) 99 102) rfl v_tyM rfl rfl ?_
        show u_P L xs m d m_X12_laysLeaving 44 [(0, .ref 100), (1, .int x1), (2, .int x2)] [.int ((g_X12_canLeave x1 (g_X12_opensRow x2 x1 (Int32.ofInt 5) S)) 99 102), .int ((g_X12_canLeave x1 (g_X12_opensRow x2 x1 (Int32.ofInt 5) S)) 99 100)] (g_X12_canLeave x1 (g_X12_opensRow x2 x1 (Int32.ofInt 5) S)) R _
        refine u_ic_lt rfl (fun h3 => ?_) (fun h3 => ?_)
        · have hD := hD.1 h3
          show u_P L xs m d m_X12_laysLeaving 93 [(0, .ref 100), (1, .int x1), (2, .int x2)] [] (g_X12_canLeave x1 (g_X12_opensRow x2 x1 (Int32.ofInt 5) S)) R _
          refine u_st rfl (fun _ => rfl) ?_
          refine u_st rfl (fun _ => rfl) ?_
          refine u_lc (b := [(0, .ref 100), (1, .int x1), (2, .int (x2 + (Int32.ofInt 1)))]) (show ([2, 0, 1] : List Nat).Nodup by decide) (show ([0, 1, 2] : List Nat).Nodup by decide) (fun i => match i with | 0 => rfl | 1 => rfl | 2 => rfl | _ + 3 => rfl) ?_
          exact (ih m hm) d x1 (x2 + (Int32.ofInt 1)) (g_X12_canLeave x1 (g_X12_opensRow x2 x1 (Int32.ofInt 5) S)) hD
        · have hD := hD.2 h3
          show u_P L xs m d m_X12_laysLeaving 47 [(0, .ref 100), (1, .int x1), (2, .int x2)] [] (g_X12_canLeave x1 (g_X12_opensRow x2 x1 (Int32.ofInt 5) S)) R _
          refine u_st rfl (fun _ => rfl) ?_
          show u_P L xs m d m_X12_laysLeaving 48 [(0, .ref 100), (1, .int x1), (2, .int x2)] [.ref 100] (g_X12_canLeave x1 (g_X12_opensRow x2 x1 (Int32.ofInt 5) S)) R _
          refine u_getE (v := (g_X12_canLeave x1 (g_X12_opensRow x2 x1 (Int32.ofInt 5) S)) 99 100) rfl v_tyM rfl rfl ?_
          refine u_st rfl (fun _ => rfl) ?_
          show u_P L xs m d m_X12_laysLeaving 52 [(0, .ref 100), (1, .int x1), (2, .int x2)] [.ref 100, .int ((g_X12_canLeave x1 (g_X12_opensRow x2 x1 (Int32.ofInt 5) S)) 99 100)] (g_X12_canLeave x1 (g_X12_opensRow x2 x1 (Int32.ofInt 5) S)) R _
          refine u_getE (v := (g_X12_canLeave x1 (g_X12_opensRow x2 x1 (Int32.ofInt 5) S)) 99 102) rfl v_tyM rfl rfl ?_
          show u_P L xs m d m_X12_laysLeaving 55 [(0, .ref 100), (1, .int x1), (2, .int x2)] [.int ((g_X12_canLeave x1 (g_X12_opensRow x2 x1 (Int32.ofInt 5) S)) 99 102), .int ((g_X12_canLeave x1 (g_X12_opensRow x2 x1 (Int32.ofInt 5) S)) 99 100)] (g_X12_canLeave x1 (g_X12_opensRow x2 x1 (Int32.ofInt 5) S)) R _
          refine u_ic_ne rfl (fun h4 => ?_) (fun h4 => ?_)
          · have hD := hD.1 h4
            show u_P L xs m d m_X12_laysLeaving 72 [(0, .ref 100), (1, .int x1), (2, .int x2)] [] (g_X12_canLeave x1 (g_X12_opensRow x2 x1 (Int32.ofInt 5) S)) R _
            refine u_st rfl (fun _ => rfl) ?_
            refine u_st rfl (fun _ => rfl) ?_
            show u_P L xs m d m_X12_laysLeaving 74 [(0, .ref 100), (1, .int x1), (2, .int x2)] [.ref 100, .ref 100] (g_X12_canLeave x1 (g_X12_opensRow x2 x1 (Int32.ofInt 5) S)) R _
            refine u_getE (v := (g_X12_canLeave x1 (g_X12_opensRow x2 x1 (Int32.ofInt 5) S)) 99 100) rfl v_tyM rfl rfl ?_
            show u_P L xs m d m_X12_laysLeaving 77 [(0, .ref 100), (1, .int x1), (2, .int x2)] [.int ((g_X12_canLeave x1 (g_X12_opensRow x2 x1 (Int32.ofInt 5) S)) 99 100), .ref 100] (g_X12_canLeave x1 (g_X12_opensRow x2 x1 (Int32.ofInt 5) S)) R _
            refine u_put rfl v_tyM rfl ?_
            refine u_st rfl (fun _ => rfl) ?_
            refine u_st rfl (fun _ => rfl) ?_
            show u_P L xs m d m_X12_laysLeaving 82 [(0, .ref 100), (1, .int x1), (2, .int x2)] [.ref 100, .ref 100] (z_s (g_X12_canLeave x1 (g_X12_opensRow x2 x1 (Int32.ofInt 5) S)) 99 102 ((g_X12_canLeave x1 (g_X12_opensRow x2 x1 (Int32.ofInt 5) S)) 99 100)) R _
            refine u_getE (v := (g_X12_canLeave x1 (g_X12_opensRow x2 x1 (Int32.ofInt 5) S)) 99 101) rfl v_tyM rfl (z_sn (fun h => absurd h.2 (by decide))) ?_
            show u_P L xs m d m_X12_laysLeaving 85 [(0, .ref 100), (1, .int x1), (2, .int x2)] [.int ((g_X12_canLeave x1 (g_X12_opensRow x2 x1 (Int32.ofInt 5) S)) 99 101), .ref 100] (z_s (g_X12_canLeave x1 (g_X12_opensRow x2 x1 (Int32.ofInt 5) S)) 99 102 ((g_X12_canLeave x1 (g_X12_opensRow x2 x1 (Int32.ofInt 5) S)) 99 100)) R _
            refine u_put rfl v_tyM rfl ?_
            refine u_st rfl (fun _ => rfl) ?_
            refine u_st rfl (fun _ => rfl) ?_
            show u_P L xs m d m_X12_laysLeaving 90 [(0, .ref 100), (1, .int x1), (2, .int x2)] [.int x1, .ref 100] (z_s (z_s (g_X12_canLeave x1 (g_X12_opensRow x2 x1 (Int32.ofInt 5) S)) 99 102 ((g_X12_canLeave x1 (g_X12_opensRow x2 x1 (Int32.ofInt 5) S)) 99 100)) 99 103 ((g_X12_canLeave x1 (g_X12_opensRow x2 x1 (Int32.ofInt 5) S)) 99 101)) R _
            refine u_cv (rest := []) rfl (by decide) mt_X12_keepsRow v_tyM rfl rfl rfl (Nat.le_of_ble_eq_true rfl) (Nat.le_of_ble_eq_true rfl) (Nat.le_of_ble_eq_true rfl) (fun d' => c_X12_keepsRow L xs m d' x1 (z_s (z_s (g_X12_canLeave x1 (g_X12_opensRow x2 x1 (Int32.ofInt 5) S)) 99 102 ((g_X12_canLeave x1 (g_X12_opensRow x2 x1 (Int32.ofInt 5) S)) 99 100)) 99 103 ((g_X12_canLeave x1 (g_X12_opensRow x2 x1 (Int32.ofInt 5) S)) 99 101)) R) ?_
            rintro _ _ _ ⟨rfl, rfl, rfl⟩
            refine u_st rfl (fun _ => rfl) ?_
            refine u_st rfl (fun _ => rfl) ?_
            refine u_lc (b := [(0, .ref 100), (1, .int x1), (2, .int (x2 + (Int32.ofInt 1)))]) (show ([2, 0, 1] : List Nat).Nodup by decide) (show ([0, 1, 2] : List Nat).Nodup by decide) (fun i => match i with | 0 => rfl | 1 => rfl | 2 => rfl | _ + 3 => rfl) ?_
            exact (ih m hm) d x1 (x2 + (Int32.ofInt 1)) (g_X12_keepsRow x1 (z_s (z_s (g_X12_canLeave x1 (g_X12_opensRow x2 x1 (Int32.ofInt 5) S)) 99 102 ((g_X12_canLeave x1 (g_X12_opensRow x2 x1 (Int32.ofInt 5) S)) 99 100)) 99 103 ((g_X12_canLeave x1 (g_X12_opensRow x2 x1 (Int32.ofInt 5) S)) 99 101))) hD
          · have hD := hD.2 h4
            show u_P L xs m d m_X12_laysLeaving 58 [(0, .ref 100), (1, .int x1), (2, .int x2)] [] (g_X12_canLeave x1 (g_X12_opensRow x2 x1 (Int32.ofInt 5) S)) R _
            refine u_st rfl (fun _ => rfl) ?_
            show u_P L xs m d m_X12_laysLeaving 59 [(0, .ref 100), (1, .int x1), (2, .int x2)] [.ref 100] (g_X12_canLeave x1 (g_X12_opensRow x2 x1 (Int32.ofInt 5) S)) R _
            refine u_getE (v := (g_X12_canLeave x1 (g_X12_opensRow x2 x1 (Int32.ofInt 5) S)) 99 101) rfl v_tyM rfl rfl ?_
            refine u_st rfl (fun _ => rfl) ?_
            show u_P L xs m d m_X12_laysLeaving 63 [(0, .ref 100), (1, .int x1), (2, .int x2)] [.ref 100, .int ((g_X12_canLeave x1 (g_X12_opensRow x2 x1 (Int32.ofInt 5) S)) 99 101)] (g_X12_canLeave x1 (g_X12_opensRow x2 x1 (Int32.ofInt 5) S)) R _
            refine u_getE (v := (g_X12_canLeave x1 (g_X12_opensRow x2 x1 (Int32.ofInt 5) S)) 99 103) rfl v_tyM rfl rfl ?_
            show u_P L xs m d m_X12_laysLeaving 66 [(0, .ref 100), (1, .int x1), (2, .int x2)] [.int ((g_X12_canLeave x1 (g_X12_opensRow x2 x1 (Int32.ofInt 5) S)) 99 103), .int ((g_X12_canLeave x1 (g_X12_opensRow x2 x1 (Int32.ofInt 5) S)) 99 101)] (g_X12_canLeave x1 (g_X12_opensRow x2 x1 (Int32.ofInt 5) S)) R _
            refine u_ic_gt rfl (fun h5 => ?_) (fun h5 => ?_)
            · have hD := hD.1 h5
              show u_P L xs m d m_X12_laysLeaving 72 [(0, .ref 100), (1, .int x1), (2, .int x2)] [] (g_X12_canLeave x1 (g_X12_opensRow x2 x1 (Int32.ofInt 5) S)) R _
              refine u_st rfl (fun _ => rfl) ?_
              refine u_st rfl (fun _ => rfl) ?_
              show u_P L xs m d m_X12_laysLeaving 74 [(0, .ref 100), (1, .int x1), (2, .int x2)] [.ref 100, .ref 100] (g_X12_canLeave x1 (g_X12_opensRow x2 x1 (Int32.ofInt 5) S)) R _
              refine u_getE (v := (g_X12_canLeave x1 (g_X12_opensRow x2 x1 (Int32.ofInt 5) S)) 99 100) rfl v_tyM rfl rfl ?_
              show u_P L xs m d m_X12_laysLeaving 77 [(0, .ref 100), (1, .int x1), (2, .int x2)] [.int ((g_X12_canLeave x1 (g_X12_opensRow x2 x1 (Int32.ofInt 5) S)) 99 100), .ref 100] (g_X12_canLeave x1 (g_X12_opensRow x2 x1 (Int32.ofInt 5) S)) R _
              refine u_put rfl v_tyM rfl ?_
              refine u_st rfl (fun _ => rfl) ?_
              refine u_st rfl (fun _ => rfl) ?_
              show u_P L xs m d m_X12_laysLeaving 82 [(0, .ref 100), (1, .int x1), (2, .int x2)] [.ref 100, .ref 100] (z_s (g_X12_canLeave x1 (g_X12_opensRow x2 x1 (Int32.ofInt 5) S)) 99 102 ((g_X12_canLeave x1 (g_X12_opensRow x2 x1 (Int32.ofInt 5) S)) 99 100)) R _
              refine u_getE (v := (g_X12_canLeave x1 (g_X12_opensRow x2 x1 (Int32.ofInt 5) S)) 99 101) rfl v_tyM rfl (z_sn (fun h => absurd h.2 (by decide))) ?_
              show u_P L xs m d m_X12_laysLeaving 85 [(0, .ref 100), (1, .int x1), (2, .int x2)] [.int ((g_X12_canLeave x1 (g_X12_opensRow x2 x1 (Int32.ofInt 5) S)) 99 101), .ref 100] (z_s (g_X12_canLeave x1 (g_X12_opensRow x2 x1 (Int32.ofInt 5) S)) 99 102 ((g_X12_canLeave x1 (g_X12_opensRow x2 x1 (Int32.ofInt 5) S)) 99 100)) R _
              refine u_put rfl v_tyM rfl ?_
              refine u_st rfl (fun _ => rfl) ?_
              refine u_st rfl (fun _ => rfl) ?_
              show u_P L xs m d m_X12_laysLeaving 90 [(0, .ref 100), (1, .int x1), (2, .int x2)] [.int x1, .ref 100] (z_s (z_s (g_X12_canLeave x1 (g_X12_opensRow x2 x1 (Int32.ofInt 5) S)) 99 102 ((g_X12_canLeave x1 (g_X12_opensRow x2 x1 (Int32.ofInt 5) S)) 99 100)) 99 103 ((g_X12_canLeave x1 (g_X12_opensRow x2 x1 (Int32.ofInt 5) S)) 99 101)) R _
              refine u_cv (rest := []) rfl (by decide) mt_X12_keepsRow v_tyM rfl rfl rfl (Nat.le_of_ble_eq_true rfl) (Nat.le_of_ble_eq_true rfl) (Nat.le_of_ble_eq_true rfl) (fun d' => c_X12_keepsRow L xs m d' x1 (z_s (z_s (g_X12_canLeave x1 (g_X12_opensRow x2 x1 (Int32.ofInt 5) S)) 99 102 ((g_X12_canLeave x1 (g_X12_opensRow x2 x1 (Int32.ofInt 5) S)) 99 100)) 99 103 ((g_X12_canLeave x1 (g_X12_opensRow x2 x1 (Int32.ofInt 5) S)) 99 101)) R) ?_
              rintro _ _ _ ⟨rfl, rfl, rfl⟩
              refine u_st rfl (fun _ => rfl) ?_
              refine u_st rfl (fun _ => rfl) ?_
              refine u_lc (b := [(0, .ref 100), (1, .int x1), (2, .int (x2 + (Int32.ofInt 1)))]) (show ([2, 0, 1] : List Nat).Nodup by decide) (show ([0, 1, 2] : List Nat).Nodup by decide) (fun i => match i with | 0 => rfl | 1 => rfl | 2 => rfl | _ + 3 => rfl) ?_
              exact (ih m hm) d x1 (x2 + (Int32.ofInt 1)) (g_X12_keepsRow x1 (z_s (z_s (g_X12_canLeave x1 (g_X12_opensRow x2 x1 (Int32.ofInt 5) S)) 99 102 ((g_X12_canLeave x1 (g_X12_opensRow x2 x1 (Int32.ofInt 5) S)) 99 100)) 99 103 ((g_X12_canLeave x1 (g_X12_opensRow x2 x1 (Int32.ofInt 5) S)) 99 101))) hD
            · have hD := hD.2 h5
              show u_P L xs m d m_X12_laysLeaving 69 [(0, .ref 100), (1, .int x1), (2, .int x2)] [] (g_X12_canLeave x1 (g_X12_opensRow x2 x1 (Int32.ofInt 5) S)) R _
              refine u_st rfl (fun _ => rfl) ?_
              refine u_st rfl (fun _ => rfl) ?_
              refine u_st rfl (fun _ => rfl) ?_
              refine u_lc (b := [(0, .ref 100), (1, .int x1), (2, .int (x2 + (Int32.ofInt 1)))]) (show ([2, 0, 1] : List Nat).Nodup by decide) (show ([0, 1, 2] : List Nat).Nodup by decide) (fun i => match i with | 0 => rfl | 1 => rfl | 2 => rfl | _ + 3 => rfl) ?_
              exact (ih m hm) d x1 (x2 + (Int32.ofInt 1)) (g_X12_canLeave x1 (g_X12_opensRow x2 x1 (Int32.ofInt 5) S)) hD
set_option maxRecDepth 4000 in
theorem w_X12_laysLeaving (L : Nat) (xs : Nat → Int32) {R : v_Rf} (a : Int32) (H12 : Int32 → Int32 → v_Sf → Prop) (K : v_Sf → Prop) (k12 : ∀ (x1 : Int32) (x2 : Int32) (S : v_Sf), H12 x1 x2 S → D_X12_laysLeaving_12 H12 K x1 x2 S) (n d : Nat) (S : v_Sf) (hD : D_X12_laysLeaving a H12 K S) : u_P L xs n d m_X12_laysLeaving 0 (lv_args 0 [.ref 100, .int a]) [] S R (z_V R K) := by
  unfold D_X12_laysLeaving at hD
  show u_P L xs n d m_X12_laysLeaving 0 [(0, .ref 100), (1, .int a)] [] S R _
  refine u_st rfl (fun _ => rfl) ?_
  refine u_st rfl (fun _ => rfl) ?_
  show u_P L xs n d m_X12_laysLeaving 2 [(0, .ref 100), (1, .int a)] [.int (Int32.ofInt (-1)), .ref 100] S R _
  refine u_put rfl v_tyM rfl ?_
  refine u_st rfl (fun _ => rfl) ?_
  refine u_st rfl (fun _ => rfl) ?_
  show u_P L xs n d m_X12_laysLeaving 7 [(0, .ref 100), (1, .int a)] [.int (Int32.ofInt 0), .ref 100] (z_s S 99 102 (Int32.ofInt (-1))) R _
  refine u_put rfl v_tyM rfl ?_
  refine u_st rfl (fun _ => rfl) ?_
  refine u_st rfl (fun _ => rfl) ?_
  refine u_lc (b := [(0, .ref 100), (1, .int a), (2, .int (Int32.ofInt 0))]) (show ([2, 0, 1] : List Nat).Nodup by decide) (show ([0, 1, 2] : List Nat).Nodup by decide) (fun i => match i with | 0 => rfl | 1 => rfl | 2 => rfl | _ + 3 => rfl) ?_
  exact (hd_X12_laysLeaving L xs a H12 K k12 n) d a (Int32.ofInt 0) (z_s (z_s S 99 102 (Int32.ofInt (-1))) 99 103 (Int32.ofInt 0)) hD
noncomputable def r_X12_laysLeaving_12 (x1 : Int32) : Nat → Nat → v_Sf → v_Sf
  | 0, k12, S => S
  | r + 1, k12, S => (if (f_X12_canLeave x1 (g_X12_opensRow (z_i k12) x1 (Int32.ofInt 5) S)) = 0 then r_X12_laysLeaving_12 x1 r (k12 + 1) (g_X12_canLeave x1 (g_X12_opensRow (z_i k12) x1 (Int32.ofInt 5) S)) else (if ((g_X12_canLeave x1 (g_X12_opensRow (z_i k12) x1 (Int32.ofInt 5) S)) 99 100) < ((g_X12_canLeave x1 (g_X12_opensRow (z_i k12) x1 (Int32.ofInt 5) S)) 99 102) then r_X12_laysLeaving_12 x1 r (k12 + 1) (g_X12_canLeave x1 (g_X12_opensRow (z_i k12) x1 (Int32.ofInt 5) S)) else (if ¬ ((g_X12_canLeave x1 (g_X12_opensRow (z_i k12) x1 (Int32.ofInt 5) S)) 99 100) = ((g_X12_canLeave x1 (g_X12_opensRow (z_i k12) x1 (Int32.ofInt 5) S)) 99 102) then r_X12_laysLeaving_12 x1 r (k12 + 1) (g_X12_keepsRow x1 (z_s (z_s (g_X12_canLeave x1 (g_X12_opensRow (z_i k12) x1 (Int32.ofInt 5) S)) 99 102 ((g_X12_canLeave x1 (g_X12_opensRow (z_i k12) x1 (Int32.ofInt 5) S)) 99 100)) 99 103 ((g_X12_canLeave x1 (g_X12_opensRow (z_i k12) x1 (Int32.ofInt 5) S)) 99 101))) else (if ((g_X12_canLeave x1 (g_X12_opensRow (z_i k12) x1 (Int32.ofInt 5) S)) 99 103) < ((g_X12_canLeave x1 (g_X12_opensRow (z_i k12) x1 (Int32.ofInt 5) S)) 99 101) then r_X12_laysLeaving_12 x1 r (k12 + 1) (g_X12_keepsRow x1 (z_s (z_s (g_X12_canLeave x1 (g_X12_opensRow (z_i k12) x1 (Int32.ofInt 5) S)) 99 102 ((g_X12_canLeave x1 (g_X12_opensRow (z_i k12) x1 (Int32.ofInt 5) S)) 99 100)) 99 103 ((g_X12_canLeave x1 (g_X12_opensRow (z_i k12) x1 (Int32.ofInt 5) S)) 99 101))) else r_X12_laysLeaving_12 x1 r (k12 + 1) (g_X12_canLeave x1 (g_X12_opensRow (z_i k12) x1 (Int32.ofInt 5) S))))))
noncomputable def F_X12_laysLeaving (a : Int32) (S : v_Sf) : v_Sf := r_X12_laysLeaving_12 a ((f_X12_powerOf (Int32.ofInt 5) a).toInt.toNat - 0) 0 (z_s (z_s S 99 102 (Int32.ofInt (-1))) 99 103 (Int32.ofInt 0))
noncomputable def g_X12_laysLeaving (a : Int32) (S : v_Sf) : v_Sf := F_X12_laysLeaving a S
theorem c_X12_laysLeaving (L : Nat) (xs : Nat → Int32) (n d : Nat) (a : Int32) (S : v_Sf) (R : v_Rf) : u_P L xs n d m_X12_laysLeaving 0 (lv_args 0 [.ref 100, .int a]) [] S R (z_V R (fun S1 => g_X12_laysLeaving a S = S1)) := by
  refine w_X12_laysLeaving L xs a (fun y1 y2 T => ∃ (k12 : Nat), k12 ≤ (f_X12_powerOf (Int32.ofInt 5) a).toInt.toNat ∧ z_i k12 = y2 ∧ a = y1 ∧ r_X12_laysLeaving_12 a ((f_X12_powerOf (Int32.ofInt 5) a).toInt.toNat - k12) k12 T = F_X12_laysLeaving a S) (fun S1 => g_X12_laysLeaving a S = S1) ?_ n d S ?_
  · rintro _ _ S1 ⟨k12, hkk, rfl, rfl, e⟩
    unfold D_X12_laysLeaving_12
    rcases Nat.lt_or_ge k12 ((f_X12_powerOf (Int32.ofInt 5) a).toInt.toNat) with hk | hk
    · rw [show (f_X12_powerOf (Int32.ofInt 5) a).toInt.toNat - k12 = ((f_X12_powerOf (Int32.ofInt 5) a).toInt.toNat - (k12 + 1)) + 1 by omega, r_X12_laysLeaving_12] at e
      refine ⟨fun q1 => ?_, fun q1 => ?_⟩
      · exact absurd hk (Nat.not_lt.mpr (z_leV q1 (by omega)))
      · refine ⟨fun q2 => ?_, fun q2 => ?_⟩
        · rw [if_pos q2] at e
          exact ⟨(k12 + 1), by omega, (z_i1 k12).symm, rfl, e⟩
        · refine ⟨fun q3 => ?_, fun q3 => ?_⟩
          · rw [if_neg q2, if_pos q3] at e
            exact ⟨(k12 + 1), by omega, (z_i1 k12).symm, rfl, e⟩
          · refine ⟨fun q4 => ?_, fun q4 => ?_⟩
            · rw [if_neg q2, if_neg q3, if_pos q4] at e
              exact ⟨(k12 + 1), by omega, (z_i1 k12).symm, rfl, e⟩
            · refine ⟨fun q5 => ?_, fun q5 => ?_⟩
              · rw [if_neg q2, if_neg q3, if_neg q4, if_pos q5] at e
                exact ⟨(k12 + 1), by omega, (z_i1 k12).symm, rfl, e⟩
              · rw [if_neg q2, if_neg q3, if_neg q4, if_neg q5] at e
                exact ⟨(k12 + 1), by omega, (z_i1 k12).symm, rfl, e⟩
    · rw [show (f_X12_powerOf (Int32.ofInt 5) a).toInt.toNat - k12 = 0 by omega, r_X12_laysLeaving_12] at e
      refine ⟨fun q6 => ?_, fun q6 => ?_⟩
      · exact e.symm
      · exact absurd hk (Nat.not_le.mpr (z_ltV q6 (by omega)))
  · unfold D_X12_laysLeaving
    have e : r_X12_laysLeaving_12 a ((f_X12_powerOf (Int32.ofInt 5) a).toInt.toNat - 0) 0 (z_s (z_s S 99 102 (Int32.ofInt (-1))) 99 103 (Int32.ofInt 0)) = F_X12_laysLeaving a S := by rw [F_X12_laysLeaving]
    exact ⟨0, by omega, rfl, rfl, e⟩
noncomputable abbrev m_X12_letGo : g_M := (g_cn 12, yX12_letGo, cX12_letGo, 5, (some .int), g_look2 ttX12_letGo)
set_option maxRecDepth 20000 in
theorem mt_X12_letGo : g_mt 265 = some m_X12_letGo := rfl
noncomputable def D_X12_letGo_29  (H29 : Int32 → Int32 → Int32 → v_Sf → Prop) (K : Int32 → v_Sf → Prop) (x2 : Int32) (x3 : Int32) (x4 : Int32) (S : v_Sf) : Prop := ((x2 ≤ x4 → K x3 S) ∧ (¬ (x2 ≤ x4) → (0 ≤ x4.toInt → x4.toInt < 8 → (((¬ (S 155 x4.toInt.toNat) = (Int32.ofInt 4)) → (0 ≤ x4.toInt → x4.toInt < 12 → (0 ≤ x4.toInt → x4.toInt < 12 → (0 ≤ (S 152 x4.toInt.toNat).toInt → (S 152 x4.toInt.toNat).toInt < 12 → H29 x2 (x3 ||| ((Int32.ofInt 1) <<< ((S 152 x4.toInt.toNat) &&& 31))) (x4 + (Int32.ofInt 1)) (z_s S 116 ((S 152 x4.toInt.toNat).toInt.toNat) (u_nar 2 (Int32.ofInt 0))))))) ∧ (¬ (¬ (S 155 x4.toInt.toNat) = (Int32.ofInt 4)) → H29 x2 x3 (x4 + (Int32.ofInt 1)) S)))))
noncomputable def D_X12_letGo (a : Int32) (H29 : Int32 → Int32 → Int32 → v_Sf → Prop) (K : Int32 → v_Sf → Prop) (S : v_Sf) : Prop := (((¬ (f_X12_areGusts a (Int32.ofInt 1) (Int32.ofInt 6) S) = 0) → H29 (f_X12_takesSome a S) (Int32.ofInt 0) (Int32.ofInt 0) (g_X12_laysLeaving (f_X12_takesSome a S) (g_X12_takesSome a S))) ∧ (¬ (¬ (f_X12_areGusts a (Int32.ofInt 1) (Int32.ofInt 6) S) = 0) → K (Int32.ofInt (-1)) S))
set_option maxRecDepth 4000 in
theorem hd_X12_letGo (L : Nat) (xs : Nat → Int32) {R : v_Rf} (a : Int32) (H29 : Int32 → Int32 → Int32 → v_Sf → Prop) (K : Int32 → v_Sf → Prop) (k29 : ∀ (x2 : Int32) (x3 : Int32) (x4 : Int32) (S : v_Sf), H29 x2 x3 x4 S → D_X12_letGo_29 H29 K x2 x3 x4 S) : ∀ n, (∀ (d : Nat) (j1 : Int32) (x2 : Int32) (x3 : Int32) (x4 : Int32) (S : v_Sf), H29 x2 x3 x4 S → u_P L xs n d m_X12_letGo 29 [(0, .ref 100), (1, .int j1), (2, .int x2), (3, .int x3), (4, .int x4)] [] S R (z_Q R K)) := by
  intro n
  induction n using Nat.strongRecOn with
  | ind n ih =>
    intro d j1 x2 x3 x4 S hD
    have hD := k29 x2 x3 x4 S hD
    unfold D_X12_letGo_29 at hD
    show u_P L xs n d m_X12_letGo 29 [(0, .ref 100), (1, .int j1), (2, .int x2), (3, .int x3), (4, .int x4)] [] S R _
    refine u_st1 rfl (fun _ => rfl) (fun m hm => ?_)
    refine u_st rfl (fun _ => rfl) ?_
    show u_P L xs m d m_X12_letGo 32 [(0, .ref 100), (1, .int j1), (2, .int x2), (3, .int x3), (4, .int x4)] [.int x2, .int x4] S R _
    refine u_ic_ge rfl (fun h1 => ?_) (fun h1 => ?_)
    · have hD := hD.1 h1
      show u_P L xs m d m_X12_letGo 80 [(0, .ref 100), (1, .int j1), (2, .int x2), (3, .int x3), (4, .int x4)] [] S R _
      refine u_st rfl (fun _ => rfl) ?_
      show u_P L xs m d m_X12_letGo 81 [(0, .ref 100), (1, .int j1), (2, .int x2), (3, .int x3), (4, .int x4)] [.int x3] S R _
      exact u_ret rfl rfl ⟨_, rfl, rfl, hD⟩
    · have hD := hD.2 h1
      show u_P L xs m d m_X12_letGo 35 [(0, .ref 100), (1, .int j1), (2, .int x2), (3, .int x3), (4, .int x4)] [] S R _
      refine u_st rfl (fun _ => rfl) ?_
      show u_P L xs m d m_X12_letGo 36 [(0, .ref 100), (1, .int j1), (2, .int x2), (3, .int x3), (4, .int x4)] [.ref 100] S R _
      refine u_getr rfl v_tyM rfl ?_
      refine u_st rfl (fun _ => rfl) ?_
      show u_P L xs m d m_X12_letGo 41 [(0, .ref 100), (1, .int j1), (2, .int x2), (3, .int x3), (4, .int x4)] [.int x4, .ref 156] S R _
      refine u_ialdE (v := S 155 x4.toInt.toNat) rfl rfl rfl (fun b21 b22 => ?_)
      have hD := hD b21 b22
      show u_P L xs m d m_X12_letGo 42 [(0, .ref 100), (1, .int j1), (2, .int x2), (3, .int x3), (4, .int x4)] [.int (S 155 x4.toInt.toNat)] S R _
      refine u_st rfl (fun _ => rfl) ?_
      show u_P L xs m d m_X12_letGo 43 [(0, .ref 100), (1, .int j1), (2, .int x2), (3, .int x3), (4, .int x4)] [.int (Int32.ofInt 4), .int (S 155 x4.toInt.toNat)] S R _
      refine u_ic_ne rfl (fun h3 => ?_) (fun h3 => ?_)
      · have hD := hD.1 h3
        show u_P L xs m d m_X12_letGo 49 [(0, .ref 100), (1, .int j1), (2, .int x2), (3, .int x3), (4, .int x4)] [] S R _
        refine u_st rfl (fun _ => rfl) ?_
        refine u_st rfl (fun _ => rfl) ?_
        refine u_st rfl (fun _ => rfl) ?_
        show u_P L xs m d m_X12_letGo 52 [(0, .ref 100), (1, .int j1), (2, .int x2), (3, .int x3), (4, .int x4)] [.ref 100, .int (Int32.ofInt 1), .int x3] S R _
        refine u_getr rfl v_tyM rfl ?_
        refine u_st rfl (fun _ => rfl) ?_
        show u_P L xs m d m_X12_letGo 57 [(0, .ref 100), (1, .int j1), (2, .int x2), (3, .int x3), (4, .int x4)] [.int x4, .ref 153, .int (Int32.ofInt 1), .int x3] S R _
        refine u_ialdE (v := S 152 x4.toInt.toNat) rfl rfl rfl (fun b41 b42 => ?_)
        have hD := hD b41 b42
        show u_P L xs m d m_X12_letGo 58 [(0, .ref 100), (1, .int j1), (2, .int x2), (3, .int x3), (4, .int x4)] [.int (S 152 x4.toInt.toNat), .int (Int32.ofInt 1), .int x3] S R _
        refine u_st rfl (fun _ => rfl) ?_
        refine u_st rfl (fun _ => rfl) ?_
        refine u_st rfl (fun _ => rfl) ?_
        refine u_st rfl (fun _ => rfl) ?_
        show u_P L xs m d m_X12_letGo 62 [(3, .int (x3 ||| ((Int32.ofInt 1) <<< ((S 152 x4.toInt.toNat) &&& 31)))), (0, .ref 100), (1, .int j1), (2, .int x2), (4, .int x4)] [.ref 100] S R _
        refine u_getr rfl v_tyM rfl ?_
        refine u_st rfl (fun _ => rfl) ?_
        show u_P L xs m d m_X12_letGo 66 [(3, .int (x3 ||| ((Int32.ofInt 1) <<< ((S 152 x4.toInt.toNat) &&& 31)))), (0, .ref 100), (1, .int j1), (2, .int x2), (4, .int x4)] [.ref 100, .ref 117] S R _
        refine u_getr rfl v_tyM rfl ?_
        refine u_st rfl (fun _ => rfl) ?_
        show u_P L xs m d m_X12_letGo 71 [(3, .int (x3 ||| ((Int32.ofInt 1) <<< ((S 152 x4.toInt.toNat) &&& 31)))), (0, .ref 100), (1, .int j1), (2, .int x2), (4, .int x4)] [.int x4, .ref 153, .ref 117] S R _
        refine u_ialdE (v := S 152 x4.toInt.toNat) rfl rfl rfl (fun b51 b52 => ?_)
        have hD := hD b51 b52
        show u_P L xs m d m_X12_letGo 72 [(3, .int (x3 ||| ((Int32.ofInt 1) <<< ((S 152 x4.toInt.toNat) &&& 31)))), (0, .ref 100), (1, .int j1), (2, .int x2), (4, .int x4)] [.int (S 152 x4.toInt.toNat), .ref 117] S R _
        refine u_st rfl (fun _ => rfl) ?_
        show u_P L xs m d m_X12_letGo 73 [(3, .int (x3 ||| ((Int32.ofInt 1) <<< ((S 152 x4.toInt.toNat) &&& 31)))), (0, .ref 100), (1, .int j1), (2, .int x2), (4, .int x4)] [.int (Int32.ofInt 0), .int (S 152 x4.toInt.toNat), .ref 117] S R _
        refine u_bast rfl rfl (by decide) (fun b61 b62 => ?_)
        have hD := hD b61 b62
        show u_P L xs m d m_X12_letGo 74 [(3, .int (x3 ||| ((Int32.ofInt 1) <<< ((S 152 x4.toInt.toNat) &&& 31)))), (0, .ref 100), (1, .int j1), (2, .int x2), (4, .int x4)] [] (z_s S 116 ((S 152 x4.toInt.toNat).toInt.toNat) (u_nar 2 (Int32.ofInt 0))) R _
        refine u_st rfl (fun _ => rfl) ?_
        refine u_st rfl (fun _ => rfl) ?_
        refine u_lc (b := [(0, .ref 100), (1, .int j1), (2, .int x2), (3, .int (x3 ||| ((Int32.ofInt 1) <<< ((S 152 x4.toInt.toNat) &&& 31)))), (4, .int (x4 + (Int32.ofInt 1)))]) (show ([4, 3, 0, 1, 2] : List Nat).Nodup by decide) (show ([0, 1, 2, 3, 4] : List Nat).Nodup by decide) (fun i => match i with | 0 => rfl | 1 => rfl | 2 => rfl | 3 => rfl | 4 => rfl | _ + 5 => rfl) ?_
        exact (ih m hm) d j1 x2 (x3 ||| ((Int32.ofInt 1) <<< ((S 152 x4.toInt.toNat) &&& 31))) (x4 + (Int32.ofInt 1)) (z_s S 116 ((S 152 x4.toInt.toNat).toInt.toNat) (u_nar 2 (Int32.ofInt 0))) hD
      · have hD := hD.2 h3
        show u_P L xs m d m_X12_letGo 46 [(0, .ref 100), (1, .int j1), (2, .int x2), (3, .int x3), (4, .int x4)] [] S R _
        refine u_st rfl (fun _ => rfl) ?_
        refine u_st rfl (fun _ => rfl) ?_
        refine u_st rfl (fun _ => rfl) ?_
        refine u_lc (b := [(0, .ref 100), (1, .int j1), (2, .int x2), (3, .int x3), (4, .int (x4 + (Int32.ofInt 1)))]) (show ([4, 0, 1, 2, 3] : List Nat).Nodup by decide) (show ([0, 1, 2, 3, 4] : List Nat).Nodup by decide) (fun i => match i with | 0 => rfl | 1 => rfl | 2 => rfl | 3 => rfl | 4 => rfl | _ + 5 => rfl) ?_
        exact (ih m hm) d j1 x2 x3 (x4 + (Int32.ofInt 1)) S hD
set_option maxRecDepth 4000 in
theorem w_X12_letGo (L : Nat) (xs : Nat → Int32) {R : v_Rf} (a : Int32) (H29 : Int32 → Int32 → Int32 → v_Sf → Prop) (K : Int32 → v_Sf → Prop) (k29 : ∀ (x2 : Int32) (x3 : Int32) (x4 : Int32) (S : v_Sf), H29 x2 x3 x4 S → D_X12_letGo_29 H29 K x2 x3 x4 S) (n d : Nat) (S : v_Sf) (hD : D_X12_letGo a H29 K S) : u_P L xs n d m_X12_letGo 0 (lv_args 0 [.ref 100, .int a]) [] S R (z_Q R K) := by
  unfold D_X12_letGo at hD
  show u_P L xs n d m_X12_letGo 0 [(0, .ref 100), (1, .int a)] [] S R _
  refine u_st rfl (fun _ => rfl) ?_
  refine u_st rfl (fun _ => rfl) ?_
  refine u_st rfl (fun _ => rfl) ?_
  refine u_st rfl (fun _ => rfl) ?_
  show u_P L xs n d m_X12_letGo 5 [(0, .ref 100), (1, .int a)] [.int (Int32.ofInt 6), .int (Int32.ofInt 1), .int a, .ref 100] S R _
  refine u_cv (rest := []) rfl (by decide) mt_X12_areGusts v_tyM rfl rfl rfl (Nat.le_of_ble_eq_true rfl) (Nat.le_of_ble_eq_true rfl) (Nat.le_of_ble_eq_true rfl) (fun d' => c_X12_areGusts L xs n d' a (Int32.ofInt 1) (Int32.ofInt 6) S R) ?_
  rintro _ _ _ ⟨_, rfl, rfl, rfl, rfl⟩
  show u_P L xs n d m_X12_letGo 8 [(0, .ref 100), (1, .int a)] [.int (f_X12_areGusts a (Int32.ofInt 1) (Int32.ofInt 6) S)] S R _
  refine u_if_ne rfl (fun h1 => ?_) (fun h1 => ?_)
  · have hD := hD.1 h1
    show u_P L xs n d m_X12_letGo 13 [(0, .ref 100), (1, .int a)] [] S R _
    refine u_st rfl (fun _ => rfl) ?_
    refine u_st rfl (fun _ => rfl) ?_
    show u_P L xs n d m_X12_letGo 15 [(0, .ref 100), (1, .int a)] [.int a, .ref 100] S R _
    refine u_cv (rest := []) rfl (by decide) mt_X12_takesSome v_tyM rfl rfl rfl (Nat.le_of_ble_eq_true rfl) (Nat.le_of_ble_eq_true rfl) (Nat.le_of_ble_eq_true rfl) (fun d' => c_X12_takesSome L xs n d' a S R) ?_
    rintro _ _ _ ⟨_, rfl, rfl, rfl, rfl⟩
    refine u_st rfl (fun _ => rfl) ?_
    refine u_st rfl (fun _ => rfl) ?_
    refine u_st rfl (fun _ => rfl) ?_
    show u_P L xs n d m_X12_letGo 21 [(2, .int (f_X12_takesSome a S)), (0, .ref 100), (1, .int a)] [.int (f_X12_takesSome a S), .ref 100] (g_X12_takesSome a S) R _
    refine u_cv (rest := []) rfl (by decide) mt_X12_laysLeaving v_tyM rfl rfl rfl (Nat.le_of_ble_eq_true rfl) (Nat.le_of_ble_eq_true rfl) (Nat.le_of_ble_eq_true rfl) (fun d' => c_X12_laysLeaving L xs n d' (f_X12_takesSome a S) (g_X12_takesSome a S) R) ?_
    rintro _ _ _ ⟨rfl, rfl, rfl⟩
    refine u_st rfl (fun _ => rfl) ?_
    refine u_st rfl (fun _ => rfl) ?_
    refine u_st rfl (fun _ => rfl) ?_
    refine u_st rfl (fun _ => rfl) ?_
    refine u_lc (b := [(0, .ref 100), (1, .int a), (2, .int (f_X12_takesSome a S)), (3, .int (Int32.ofInt 0)), (4, .int (Int32.ofInt 0))]) (show ([4, 3, 2, 0, 1] : List Nat).Nodup by decide) (show ([0, 1, 2, 3, 4] : List Nat).Nodup by decide) (fun i => match i with | 0 => rfl | 1 => rfl | 2 => rfl | 3 => rfl | 4 => rfl | _ + 5 => rfl) ?_
    exact (hd_X12_letGo L xs a H29 K k29 n) d a (f_X12_takesSome a S) (Int32.ofInt 0) (Int32.ofInt 0) (g_X12_laysLeaving (f_X12_takesSome a S) (g_X12_takesSome a S)) hD
  · have hD := hD.2 h1
    show u_P L xs n d m_X12_letGo 11 [(0, .ref 100), (1, .int a)] [] S R _
    refine u_st rfl (fun _ => rfl) ?_
    show u_P L xs n d m_X12_letGo 12 [(0, .ref 100), (1, .int a)] [.int (Int32.ofInt (-1))] S R _
    exact u_ret rfl rfl ⟨_, rfl, rfl, hD⟩
noncomputable def r_X12_letGo_29 (x2 : Int32) : Nat → Nat → Int32 → v_Sf → Int32 × v_Sf
  | 0, k29, x3, S => (x3, S)
  | r + 1, k29, x3, S => (if ¬ (S 155 (z_i k29).toInt.toNat) = (Int32.ofInt 4) then r_X12_letGo_29 x2 r (k29 + 1) (x3 ||| ((Int32.ofInt 1) <<< ((S 152 (z_i k29).toInt.toNat) &&& 31))) (z_s S 116 ((S 152 (z_i k29).toInt.toNat).toInt.toNat) (u_nar 2 (Int32.ofInt 0))) else r_X12_letGo_29 x2 r (k29 + 1) x3 S)
noncomputable def F_X12_letGo (a : Int32) (S : v_Sf) : Int32 × v_Sf := (if ¬ (f_X12_areGusts a (Int32.ofInt 1) (Int32.ofInt 6) S) = 0 then r_X12_letGo_29 (f_X12_takesSome a S) (((f_X12_takesSome a S)).toInt.toNat - 0) 0 (Int32.ofInt 0) (g_X12_laysLeaving (f_X12_takesSome a S) (g_X12_takesSome a S)) else (Int32.ofInt (-1), S))
noncomputable def f_X12_letGo (a : Int32) (S : v_Sf) : Int32 := (F_X12_letGo a S).1
noncomputable def g_X12_letGo (a : Int32) (S : v_Sf) : v_Sf := (F_X12_letGo a S).2
theorem c_X12_letGo (L : Nat) (xs : Nat → Int32) (n d : Nat) (a : Int32) (S : v_Sf) (R : v_Rf) : u_P L xs n d m_X12_letGo 0 (lv_args 0 [.ref 100, .int a]) [] S R (z_Q R (fun v S1 => f_X12_letGo a S = v ∧ g_X12_letGo a S = S1)) := by
  refine w_X12_letGo L xs a (fun y2 y3 y4 T => ∃ (k29 : Nat), k29 ≤ ((f_X12_takesSome a S)).toInt.toNat ∧ z_i k29 = y4 ∧ f_X12_takesSome a S = y2 ∧ r_X12_letGo_29 (f_X12_takesSome a S) (((f_X12_takesSome a S)).toInt.toNat - k29) k29 y3 T = F_X12_letGo a S) (fun v S1 => f_X12_letGo a S = v ∧ g_X12_letGo a S = S1) ?_ n d S ?_
  · rintro _ x3 _ S1 ⟨k29, hkk, rfl, rfl, e⟩
    unfold D_X12_letGo_29
    rcases Nat.lt_or_ge k29 (((f_X12_takesSome a S)).toInt.toNat) with hk | hk
    · rw [show ((f_X12_takesSome a S)).toInt.toNat - k29 = (((f_X12_takesSome a S)).toInt.toNat - (k29 + 1)) + 1 by omega, r_X12_letGo_29] at e
      refine ⟨fun q1 => ?_, fun q1 => ?_⟩
      · exact absurd hk (Nat.not_lt.mpr (z_leV q1 (by omega)))
      · intro _ _
        refine ⟨fun q2 => ?_, fun q2 => ?_⟩
        · intro _ _
          intro _ _
          intro _ _
          rw [if_pos q2] at e
          exact ⟨(k29 + 1), by omega, (z_i1 k29).symm, rfl, e⟩
        · rw [if_neg q2] at e
          exact ⟨(k29 + 1), by omega, (z_i1 k29).symm, rfl, e⟩
    · rw [show ((f_X12_takesSome a S)).toInt.toNat - k29 = 0 by omega, r_X12_letGo_29] at e
      refine ⟨fun q3 => ?_, fun q3 => ?_⟩
      · have e1 := congrArg Prod.fst e.symm
        have e2 := congrArg Prod.snd e.symm
        exact ⟨e1, e2⟩
      · exact absurd hk (Nat.not_le.mpr (z_ltV q3 (by omega)))
  · unfold D_X12_letGo
    refine ⟨fun q4 => ?_, fun q4 => ?_⟩
    · have e : r_X12_letGo_29 (f_X12_takesSome a S) (((f_X12_takesSome a S)).toInt.toNat - 0) 0 (Int32.ofInt 0) (g_X12_laysLeaving (f_X12_takesSome a S) (g_X12_takesSome a S)) = F_X12_letGo a S := by rw [F_X12_letGo, if_pos q4]
      exact ⟨0, by omega, rfl, rfl, e⟩
    · have e : (Int32.ofInt (-1), S) = F_X12_letGo a S := by rw [F_X12_letGo, if_neg q4]
      have e1 := congrArg Prod.fst e.symm
      have e2 := congrArg Prod.snd e.symm
      exact ⟨e1, e2⟩
end PrtS42n_w3
