theorem p1_case {hk : q_Hk} (hH : ∀ (T : q_T) (xs : Nat → Int32), q_HkOk T 6 q_scr xs hk) {a1 a2 o : Int × Int} (h : q_go1 hk a1 a2 o = true) (xs : Nat → Int32) (h1 : a1.1 ≤ (xs 1).toInt ∧ (xs 1).toInt ≤ a1.2) (h2 : a2.1 ≤ (xs 2).toInt ∧ (xs 2).toInt ≤ a2.2) (h3 : o.1 ≤ (xs 0 &&& 63).toInt ∧ (xs 0 &&& 63).toInt ≤ o.2) : g_Owed 6 xs := by
  have hfu : ∀ w : Int32, q_fu.1 ≤ w.toInt ∧ w.toInt ≤ q_fu.2.1 := fun w => q_rng w
  have hre : q_re [(xs 0).toInt, (xs 1).toInt, (xs 2).toInt, (xs 3).toInt, (xs 4).toInt, (xs 5).toInt, (xs 0 &&& 63).toInt] (q_env a1 a2 o) := by
    refine ⟨rfl, fun k e hk => ?_⟩
    match k, hk with
    | 0, hk => cases hk; exact ⟨_, rfl, (hfu _).1, (hfu _).2, Or.inl rfl⟩
    | 1, hk => cases hk; exact ⟨_, rfl, h1.1, h1.2, Or.inl rfl⟩
    | 2, hk => cases hk; exact ⟨_, rfl, h2.1, h2.2, Or.inl rfl⟩
    | 3, hk => cases hk; exact ⟨_, rfl, (hfu _).1, (hfu _).2, Or.inl rfl⟩
    | 4, hk => cases hk; exact ⟨_, rfl, (hfu _).1, (hfu _).2, Or.inl rfl⟩
    | 5, hk => cases hk; exact ⟨_, rfl, (hfu _).1, (hfu _).2, Or.inl rfl⟩
    | 6, hk => cases hk; exact ⟨_, rfl, h3.1, h3.2, Or.inr ⟨xs 0, 63, rfl, rfl, rfl⟩⟩
    | m + 7, hk => cases hk
  have hrs : q_rs [(xs 0).toInt, (xs 1).toInt, (xs 2).toInt, (xs 3).toInt, (xs 4).toInt, (xs 5).toInt, (xs 0 &&& 63).toInt] q_scr xs := by
    intro j a hj
    match j, hj with
    | 0, hj => cases hj; rfl
    | 1, hj => cases hj; rfl
    | 2, hj => cases hj; rfl
    | 3, hj => cases hj; rfl
    | 4, hj => cases hj; rfl
    | 5, hj => cases hj; rfl
    | m + 6, hj => cases hj
  rcases q_sound (T := q_T0) (L := 6) (scr := q_scr) (xs := xs) rfl (by decide) (hH _ xs) 20000 60 q_law 0 q_ls0 [] (q_env a1 a2 o, 0, []) q_K0 (Nat.le_refl _) h _ [(0, .ref 0)] [] [] ⟨⟨rfl, rfl⟩, trivial⟩ trivial ⟨hre, ⟨rfl, fun a c hc => by simp at hc⟩, hrs⟩ with ⟨n0, r, σ', ρ', v, A', g1, g2, g3, g4, g5⟩ | ⟨-, n0, n', lc', sc', σ', ρ', ls', st', A', -, -, -, -, -, g⟩
  · obtain ⟨k1, k2, k3⟩ := q_K0_ok g5 g3 g4
    exact ⟨n0 + 0, (r, σ'), g1 0, k1, k2, k3⟩
  · cases g
theorem p0_0 (xs : Nat → Int32) : g_Owed 0 xs := by
  have hfu : ∀ w : Int32, q_fu.1 ≤ w.toInt ∧ w.toInt ≤ q_fu.2.1 := fun w => q_rng w
  have hre : q_re ([] : List Int) ((q_env (-2147483648, 2147483647) (-2147483648, 2147483647) (0, 0)).take 0) := by
    refine ⟨rfl, fun k e hk => ?_⟩
    match k, hk with
    | n + 0, hk => cases hk
  have hrs : q_rs ([] : List Int) (q_scr.take 0) xs := by
    intro j a hj
    match j, hj with
    | n + 0, hj => cases hj
  rcases q_sound (T := q_T0) (L := 0) (scr := q_scr.take 0) (xs := xs) rfl (by decide) (q_hk0_ok _ _ _ _ q_hk0 (fun _ _ _ _ _ => rfl)) 20000 60 q_law 0 q_ls0 [] ((q_env (-2147483648, 2147483647) (-2147483648, 2147483647) (0, 0)).take 0, 0, []) q_K0 (Nat.le_refl _) qs_0 _ [(0, .ref 0)] [] [] ⟨⟨rfl, rfl⟩, trivial⟩ trivial ⟨hre, ⟨rfl, fun a c hc => by simp at hc⟩, hrs⟩ with ⟨n0, r, σ', ρ', v, A', g1, g2, g3, g4, g5⟩ | ⟨-, n0, n', lc', sc', σ', ρ', ls', st', A', -, -, -, -, -, g⟩
  · obtain ⟨k1, k2, k3⟩ := q_K0_ok g5 g3 g4
    exact ⟨n0 + 0, (r, σ'), g1 0, k1, k2, k3⟩
  · cases g
theorem p0_1 (xs : Nat → Int32) : g_Owed 1 xs := by
  have hfu : ∀ w : Int32, q_fu.1 ≤ w.toInt ∧ w.toInt ≤ q_fu.2.1 := fun w => q_rng w
  have hre : q_re [(xs 0).toInt] ((q_env (-2147483648, 2147483647) (-2147483648, 2147483647) (0, 0)).take 1) := by
    refine ⟨rfl, fun k e hk => ?_⟩
    match k, hk with
    | 0, hk => cases hk; exact ⟨_, rfl, (hfu _).1, (hfu _).2, Or.inl rfl⟩
    | n + 1, hk => cases hk
  have hrs : q_rs [(xs 0).toInt] (q_scr.take 1) xs := by
    intro j a hj
    match j, hj with
    | 0, hj => cases hj; rfl
    | n + 1, hj => cases hj
  rcases q_sound (T := q_T0) (L := 1) (scr := q_scr.take 1) (xs := xs) rfl (by decide) (q_hk0_ok _ _ _ _ q_hk0 (fun _ _ _ _ _ => rfl)) 20000 60 q_law 0 q_ls0 [] ((q_env (-2147483648, 2147483647) (-2147483648, 2147483647) (0, 0)).take 1, 0, []) q_K0 (Nat.le_refl _) qs_1 _ [(0, .ref 0)] [] [] ⟨⟨rfl, rfl⟩, trivial⟩ trivial ⟨hre, ⟨rfl, fun a c hc => by simp at hc⟩, hrs⟩ with ⟨n0, r, σ', ρ', v, A', g1, g2, g3, g4, g5⟩ | ⟨-, n0, n', lc', sc', σ', ρ', ls', st', A', -, -, -, -, -, g⟩
  · obtain ⟨k1, k2, k3⟩ := q_K0_ok g5 g3 g4
    exact ⟨n0 + 0, (r, σ'), g1 0, k1, k2, k3⟩
  · cases g
theorem p0_2 (xs : Nat → Int32) : g_Owed 2 xs := by
  have hfu : ∀ w : Int32, q_fu.1 ≤ w.toInt ∧ w.toInt ≤ q_fu.2.1 := fun w => q_rng w
  have hre : q_re [(xs 0).toInt, (xs 1).toInt] ((q_env (-2147483648, 2147483647) (-2147483648, 2147483647) (0, 0)).take 2) := by
    refine ⟨rfl, fun k e hk => ?_⟩
    match k, hk with
    | 0, hk => cases hk; exact ⟨_, rfl, (hfu _).1, (hfu _).2, Or.inl rfl⟩
    | 1, hk => cases hk; exact ⟨_, rfl, (hfu _).1, (hfu _).2, Or.inl rfl⟩
    | n + 2, hk => cases hk
  have hrs : q_rs [(xs 0).toInt, (xs 1).toInt] (q_scr.take 2) xs := by
    intro j a hj
    match j, hj with
    | 0, hj => cases hj; rfl
    | 1, hj => cases hj; rfl
    | n + 2, hj => cases hj
  rcases q_sound (T := q_T0) (L := 2) (scr := q_scr.take 2) (xs := xs) rfl (by decide) (q_hk0_ok _ _ _ _ q_hk0 (fun _ _ _ _ _ => rfl)) 20000 60 q_law 0 q_ls0 [] ((q_env (-2147483648, 2147483647) (-2147483648, 2147483647) (0, 0)).take 2, 0, []) q_K0 (Nat.le_refl _) qs_2 _ [(0, .ref 0)] [] [] ⟨⟨rfl, rfl⟩, trivial⟩ trivial ⟨hre, ⟨rfl, fun a c hc => by simp at hc⟩, hrs⟩ with ⟨n0, r, σ', ρ', v, A', g1, g2, g3, g4, g5⟩ | ⟨-, n0, n', lc', sc', σ', ρ', ls', st', A', -, -, -, -, -, g⟩
  · obtain ⟨k1, k2, k3⟩ := q_K0_ok g5 g3 g4
    exact ⟨n0 + 0, (r, σ'), g1 0, k1, k2, k3⟩
  · cases g
theorem p0_3 (xs : Nat → Int32) : g_Owed 3 xs := by
  have hfu : ∀ w : Int32, q_fu.1 ≤ w.toInt ∧ w.toInt ≤ q_fu.2.1 := fun w => q_rng w
  have hre : q_re [(xs 0).toInt, (xs 1).toInt, (xs 2).toInt] ((q_env (-2147483648, 2147483647) (-2147483648, 2147483647) (0, 0)).take 3) := by
    refine ⟨rfl, fun k e hk => ?_⟩
    match k, hk with
    | 0, hk => cases hk; exact ⟨_, rfl, (hfu _).1, (hfu _).2, Or.inl rfl⟩
    | 1, hk => cases hk; exact ⟨_, rfl, (hfu _).1, (hfu _).2, Or.inl rfl⟩
    | 2, hk => cases hk; exact ⟨_, rfl, (hfu _).1, (hfu _).2, Or.inl rfl⟩
    | n + 3, hk => cases hk
  have hrs : q_rs [(xs 0).toInt, (xs 1).toInt, (xs 2).toInt] (q_scr.take 3) xs := by
    intro j a hj
    match j, hj with
    | 0, hj => cases hj; rfl
    | 1, hj => cases hj; rfl
    | 2, hj => cases hj; rfl
    | n + 3, hj => cases hj
  rcases q_sound (T := q_T0) (L := 3) (scr := q_scr.take 3) (xs := xs) rfl (by decide) (q_hk0_ok _ _ _ _ q_hk0 (fun _ _ _ _ _ => rfl)) 20000 60 q_law 0 q_ls0 [] ((q_env (-2147483648, 2147483647) (-2147483648, 2147483647) (0, 0)).take 3, 0, []) q_K0 (Nat.le_refl _) qs_3 _ [(0, .ref 0)] [] [] ⟨⟨rfl, rfl⟩, trivial⟩ trivial ⟨hre, ⟨rfl, fun a c hc => by simp at hc⟩, hrs⟩ with ⟨n0, r, σ', ρ', v, A', g1, g2, g3, g4, g5⟩ | ⟨-, n0, n', lc', sc', σ', ρ', ls', st', A', -, -, -, -, -, g⟩
  · obtain ⟨k1, k2, k3⟩ := q_K0_ok g5 g3 g4
    exact ⟨n0 + 0, (r, σ'), g1 0, k1, k2, k3⟩
  · cases g
theorem p0_4 (xs : Nat → Int32) : g_Owed 4 xs := by
  have hfu : ∀ w : Int32, q_fu.1 ≤ w.toInt ∧ w.toInt ≤ q_fu.2.1 := fun w => q_rng w
  have hre : q_re [(xs 0).toInt, (xs 1).toInt, (xs 2).toInt, (xs 3).toInt] ((q_env (-2147483648, 2147483647) (-2147483648, 2147483647) (0, 0)).take 4) := by
    refine ⟨rfl, fun k e hk => ?_⟩
    match k, hk with
    | 0, hk => cases hk; exact ⟨_, rfl, (hfu _).1, (hfu _).2, Or.inl rfl⟩
    | 1, hk => cases hk; exact ⟨_, rfl, (hfu _).1, (hfu _).2, Or.inl rfl⟩
    | 2, hk => cases hk; exact ⟨_, rfl, (hfu _).1, (hfu _).2, Or.inl rfl⟩
    | 3, hk => cases hk; exact ⟨_, rfl, (hfu _).1, (hfu _).2, Or.inl rfl⟩
    | n + 4, hk => cases hk
  have hrs : q_rs [(xs 0).toInt, (xs 1).toInt, (xs 2).toInt, (xs 3).toInt] (q_scr.take 4) xs := by
    intro j a hj
    match j, hj with
    | 0, hj => cases hj; rfl
    | 1, hj => cases hj; rfl
    | 2, hj => cases hj; rfl
    | 3, hj => cases hj; rfl
    | n + 4, hj => cases hj
  rcases q_sound (T := q_T0) (L := 4) (scr := q_scr.take 4) (xs := xs) rfl (by decide) (q_hk0_ok _ _ _ _ q_hk0 (fun _ _ _ _ _ => rfl)) 20000 60 q_law 0 q_ls0 [] ((q_env (-2147483648, 2147483647) (-2147483648, 2147483647) (0, 0)).take 4, 0, []) q_K0 (Nat.le_refl _) qs_4 _ [(0, .ref 0)] [] [] ⟨⟨rfl, rfl⟩, trivial⟩ trivial ⟨hre, ⟨rfl, fun a c hc => by simp at hc⟩, hrs⟩ with ⟨n0, r, σ', ρ', v, A', g1, g2, g3, g4, g5⟩ | ⟨-, n0, n', lc', sc', σ', ρ', ls', st', A', -, -, -, -, -, g⟩
  · obtain ⟨k1, k2, k3⟩ := q_K0_ok g5 g3 g4
    exact ⟨n0 + 0, (r, σ'), g1 0, k1, k2, k3⟩
  · cases g
theorem p0_5 (xs : Nat → Int32) : g_Owed 5 xs := by
  have hfu : ∀ w : Int32, q_fu.1 ≤ w.toInt ∧ w.toInt ≤ q_fu.2.1 := fun w => q_rng w
  have hre : q_re [(xs 0).toInt, (xs 1).toInt, (xs 2).toInt, (xs 3).toInt, (xs 4).toInt] ((q_env (-2147483648, 2147483647) (-2147483648, 2147483647) (0, 0)).take 5) := by
    refine ⟨rfl, fun k e hk => ?_⟩
    match k, hk with
    | 0, hk => cases hk; exact ⟨_, rfl, (hfu _).1, (hfu _).2, Or.inl rfl⟩
    | 1, hk => cases hk; exact ⟨_, rfl, (hfu _).1, (hfu _).2, Or.inl rfl⟩
    | 2, hk => cases hk; exact ⟨_, rfl, (hfu _).1, (hfu _).2, Or.inl rfl⟩
    | 3, hk => cases hk; exact ⟨_, rfl, (hfu _).1, (hfu _).2, Or.inl rfl⟩
    | 4, hk => cases hk; exact ⟨_, rfl, (hfu _).1, (hfu _).2, Or.inl rfl⟩
    | n + 5, hk => cases hk
  have hrs : q_rs [(xs 0).toInt, (xs 1).toInt, (xs 2).toInt, (xs 3).toInt, (xs 4).toInt] (q_scr.take 5) xs := by
    intro j a hj
    match j, hj with
    | 0, hj => cases hj; rfl
    | 1, hj => cases hj; rfl
    | 2, hj => cases hj; rfl
    | 3, hj => cases hj; rfl
    | 4, hj => cases hj; rfl
    | n + 5, hj => cases hj
  rcases q_sound (T := q_T0) (L := 5) (scr := q_scr.take 5) (xs := xs) rfl (by decide) (q_hk0_ok _ _ _ _ q_hk0 (fun _ _ _ _ _ => rfl)) 20000 60 q_law 0 q_ls0 [] ((q_env (-2147483648, 2147483647) (-2147483648, 2147483647) (0, 0)).take 5, 0, []) q_K0 (Nat.le_refl _) qs_5 _ [(0, .ref 0)] [] [] ⟨⟨rfl, rfl⟩, trivial⟩ trivial ⟨hre, ⟨rfl, fun a c hc => by simp at hc⟩, hrs⟩ with ⟨n0, r, σ', ρ', v, A', g1, g2, g3, g4, g5⟩ | ⟨-, n0, n', lc', sc', σ', ρ', ls', st', A', -, -, -, -, -, g⟩
  · obtain ⟨k1, k2, k3⟩ := q_K0_ok g5 g3 g4
    exact ⟨n0 + 0, (r, σ'), g1 0, k1, k2, k3⟩
  · cases g
set_option maxHeartbeats 4000000 in
theorem p1_six (xs : Nat → Int32) : g_Owed 6 xs := by
  have hv := q_and_iv (x := xs 0) (y := 63) (by decide)
  have hv2 : (63 : Int32).toInt = 63 := rfl
  have ha := q_rng (xs 1)
  have hb := q_rng (xs 2)
  have h0 : ∀ (T : q_T) (xs : Nat → Int32), q_HkOk T 6 q_scr xs q_hk0 := fun T xs => q_hk0_ok _ _ _ _ q_hk0 (fun _ _ _ _ _ => rfl)
  rcases (by omega : (xs 0 &&& 63).toInt = 0 ∨ (xs 0 &&& 63).toInt = 1 ∨ (xs 0 &&& 63).toInt = 2 ∨ (xs 0 &&& 63).toInt = 3 ∨ (xs 0 &&& 63).toInt = 4 ∨ (xs 0 &&& 63).toInt = 5 ∨ (xs 0 &&& 63).toInt = 6 ∨ (xs 0 &&& 63).toInt = 7 ∨ (xs 0 &&& 63).toInt = 8 ∨ (xs 0 &&& 63).toInt = 9 ∨ (xs 0 &&& 63).toInt = 10 ∨ (xs 0 &&& 63).toInt = 11 ∨ (xs 0 &&& 63).toInt = 12 ∨ (xs 0 &&& 63).toInt = 13 ∨ (xs 0 &&& 63).toInt = 14 ∨ (xs 0 &&& 63).toInt = 15 ∨ (xs 0 &&& 63).toInt = 16 ∨ (xs 0 &&& 63).toInt = 17 ∨ (xs 0 &&& 63).toInt = 18 ∨ (xs 0 &&& 63).toInt = 19 ∨ (xs 0 &&& 63).toInt = 20 ∨ (xs 0 &&& 63).toInt = 21 ∨ (xs 0 &&& 63).toInt = 22 ∨ (xs 0 &&& 63).toInt = 23 ∨ (xs 0 &&& 63).toInt = 24 ∨ (xs 0 &&& 63).toInt = 25 ∨ (xs 0 &&& 63).toInt = 26 ∨ (xs 0 &&& 63).toInt = 27 ∨ (xs 0 &&& 63).toInt = 28 ∨ (xs 0 &&& 63).toInt = 29 ∨ (xs 0 &&& 63).toInt = 30 ∨ (xs 0 &&& 63).toInt = 31 ∨ (xs 0 &&& 63).toInt = 32 ∨ (xs 0 &&& 63).toInt = 33 ∨ (xs 0 &&& 63).toInt = 34 ∨ (xs 0 &&& 63).toInt = 35 ∨ 36 ≤ (xs 0 &&& 63).toInt) with h | h | h | h | h | h | h | h | h | h | h | h | h | h | h | h | h | h | h | h | h | h | h | h | h | h | h | h | h | h | h | h | h | h | h | h | h
  · rcases (by omega : (-2147483648 ≤ (xs 1).toInt ∧ (xs 1).toInt ≤ -1) ∨ (0 ≤ (xs 1).toInt ∧ (xs 1).toInt ≤ 0) ∨ (1 ≤ (xs 1).toInt ∧ (xs 1).toInt ≤ 1) ∨ (2 ≤ (xs 1).toInt ∧ (xs 1).toInt ≤ 2) ∨ (3 ≤ (xs 1).toInt ∧ (xs 1).toInt ≤ 3) ∨ (4 ≤ (xs 1).toInt ∧ (xs 1).toInt ≤ 4) ∨ (5 ≤ (xs 1).toInt ∧ (xs 1).toInt ≤ 5) ∨ (6 ≤ (xs 1).toInt ∧ (xs 1).toInt ≤ 6) ∨ (7 ≤ (xs 1).toInt ∧ (xs 1).toInt ≤ 7) ∨ (8 ≤ (xs 1).toInt ∧ (xs 1).toInt ≤ 8) ∨ (9 ≤ (xs 1).toInt ∧ (xs 1).toInt ≤ 9) ∨ (10 ≤ (xs 1).toInt ∧ (xs 1).toInt ≤ 10) ∨ (11 ≤ (xs 1).toInt ∧ (xs 1).toInt ≤ 11) ∨ (12 ≤ (xs 1).toInt ∧ (xs 1).toInt ≤ 2147483647)) with g | g | g | g | g | g | g | g | g | g | g | g | g | g
    · exact p1_case h0 qr_0 xs (by dsimp only; omega) (by dsimp only; omega) (by dsimp only; omega)
    · exact p1_case h0 qr_1 xs (by dsimp only; omega) (by dsimp only; omega) (by dsimp only; omega)
    · exact p1_case h0 qr_2 xs (by dsimp only; omega) (by dsimp only; omega) (by dsimp only; omega)
    · exact p1_case h0 qr_3 xs (by dsimp only; omega) (by dsimp only; omega) (by dsimp only; omega)
    · exact p1_case h0 qr_4 xs (by dsimp only; omega) (by dsimp only; omega) (by dsimp only; omega)
    · exact p1_case h0 qr_5 xs (by dsimp only; omega) (by dsimp only; omega) (by dsimp only; omega)
    · exact p1_case h0 qr_6 xs (by dsimp only; omega) (by dsimp only; omega) (by dsimp only; omega)
    · exact p1_case h0 qr_7 xs (by dsimp only; omega) (by dsimp only; omega) (by dsimp only; omega)
    · exact p1_case h0 qr_8 xs (by dsimp only; omega) (by dsimp only; omega) (by dsimp only; omega)
    · exact p1_case h0 qr_9 xs (by dsimp only; omega) (by dsimp only; omega) (by dsimp only; omega)
    · exact p1_case h0 qr_10 xs (by dsimp only; omega) (by dsimp only; omega) (by dsimp only; omega)
    · exact p1_case h0 qr_11 xs (by dsimp only; omega) (by dsimp only; omega) (by dsimp only; omega)
    · exact p1_case h0 qr_12 xs (by dsimp only; omega) (by dsimp only; omega) (by dsimp only; omega)
    · exact p1_case h0 qr_13 xs (by dsimp only; omega) (by dsimp only; omega) (by dsimp only; omega)
  · exact p1_case h0 qr_14 xs (by dsimp only; omega) (by dsimp only; omega) (by dsimp only; omega)
  · exact p1_case h0 qr_15 xs (by dsimp only; omega) (by dsimp only; omega) (by dsimp only; omega)
  · exact p1_case h0 qr_16 xs (by dsimp only; omega) (by dsimp only; omega) (by dsimp only; omega)
  · rcases (by omega : (-2147483648 ≤ (xs 1).toInt ∧ (xs 1).toInt ≤ -1) ∨ (0 ≤ (xs 1).toInt ∧ (xs 1).toInt ≤ 0) ∨ (1 ≤ (xs 1).toInt ∧ (xs 1).toInt ≤ 1) ∨ (2 ≤ (xs 1).toInt ∧ (xs 1).toInt ≤ 2) ∨ (3 ≤ (xs 1).toInt ∧ (xs 1).toInt ≤ 3) ∨ (4 ≤ (xs 1).toInt ∧ (xs 1).toInt ≤ 4) ∨ (5 ≤ (xs 1).toInt ∧ (xs 1).toInt ≤ 5) ∨ (6 ≤ (xs 1).toInt ∧ (xs 1).toInt ≤ 2147483647)) with g | g | g | g | g | g | g | g
    · exact p1_case h0 qr_17 xs (by dsimp only; omega) (by dsimp only; omega) (by dsimp only; omega)
    · exact p1_case h0 qr_18 xs (by dsimp only; omega) (by dsimp only; omega) (by dsimp only; omega)
    · exact p1_case h0 qr_19 xs (by dsimp only; omega) (by dsimp only; omega) (by dsimp only; omega)
    · exact p1_case h0 qr_20 xs (by dsimp only; omega) (by dsimp only; omega) (by dsimp only; omega)
    · exact p1_case h0 qr_21 xs (by dsimp only; omega) (by dsimp only; omega) (by dsimp only; omega)
    · exact p1_case h0 qr_22 xs (by dsimp only; omega) (by dsimp only; omega) (by dsimp only; omega)
    · exact p1_case h0 qr_23 xs (by dsimp only; omega) (by dsimp only; omega) (by dsimp only; omega)
    · exact p1_case h0 qr_24 xs (by dsimp only; omega) (by dsimp only; omega) (by dsimp only; omega)
  · exact p1_case h0 qr_25 xs (by dsimp only; omega) (by dsimp only; omega) (by dsimp only; omega)
  · rcases (by omega : (-2147483648 ≤ (xs 2).toInt ∧ (xs 2).toInt ≤ -1) ∨ (0 ≤ (xs 2).toInt ∧ (xs 2).toInt ≤ 0) ∨ (1 ≤ (xs 2).toInt ∧ (xs 2).toInt ≤ 1022) ∨ (1023 ≤ (xs 2).toInt ∧ (xs 2).toInt ≤ 1023) ∨ (1024 ≤ (xs 2).toInt ∧ (xs 2).toInt ≤ 2147483647)) with g | g | g | g | g
    · exact p1_case h0 qr_26 xs (by dsimp only; omega) (by dsimp only; omega) (by dsimp only; omega)
    · exact p1_case h0 qr_27 xs (by dsimp only; omega) (by dsimp only; omega) (by dsimp only; omega)
    · exact p1_case h0 qr_28 xs (by dsimp only; omega) (by dsimp only; omega) (by dsimp only; omega)
    · exact p1_case h0 qr_29 xs (by dsimp only; omega) (by dsimp only; omega) (by dsimp only; omega)
    · exact p1_case h0 qr_30 xs (by dsimp only; omega) (by dsimp only; omega) (by dsimp only; omega)
  · exact p1_case h0 qr_31 xs (by dsimp only; omega) (by dsimp only; omega) (by dsimp only; omega)
  · exact p1_case h0 qr_32 xs (by dsimp only; omega) (by dsimp only; omega) (by dsimp only; omega)
  · exact p1_case h0 qr_33 xs (by dsimp only; omega) (by dsimp only; omega) (by dsimp only; omega)
  · exact p1_case h0 qr_34 xs (by dsimp only; omega) (by dsimp only; omega) (by dsimp only; omega)
  · exact p1_case q_hkM_ok qr_m xs (by dsimp only; omega) (by dsimp only; omega) (by dsimp only; omega)
  · exact p1_case q_hkM_ok qr_t xs (by dsimp only; omega) (by dsimp only; omega) (by dsimp only; omega)
  · exact p1_case h0 qr_35 xs (by dsimp only; omega) (by dsimp only; omega) (by dsimp only; omega)
  · rcases (by omega : (-2147483648 ≤ (xs 1).toInt ∧ (xs 1).toInt ≤ -1) ∨ (0 ≤ (xs 1).toInt ∧ (xs 1).toInt ≤ 0) ∨ (1 ≤ (xs 1).toInt ∧ (xs 1).toInt ≤ 1) ∨ (2 ≤ (xs 1).toInt ∧ (xs 1).toInt ≤ 2) ∨ (3 ≤ (xs 1).toInt ∧ (xs 1).toInt ≤ 3) ∨ (4 ≤ (xs 1).toInt ∧ (xs 1).toInt ≤ 4) ∨ (5 ≤ (xs 1).toInt ∧ (xs 1).toInt ≤ 5) ∨ (6 ≤ (xs 1).toInt ∧ (xs 1).toInt ≤ 2147483647)) with g | g | g | g | g | g | g | g
    · exact p1_case h0 qr_36 xs (by dsimp only; omega) (by dsimp only; omega) (by dsimp only; omega)
    · exact p1_case h0 qr_37 xs (by dsimp only; omega) (by dsimp only; omega) (by dsimp only; omega)
    · exact p1_case h0 qr_38 xs (by dsimp only; omega) (by dsimp only; omega) (by dsimp only; omega)
    · exact p1_case h0 qr_39 xs (by dsimp only; omega) (by dsimp only; omega) (by dsimp only; omega)
    · exact p1_case h0 qr_40 xs (by dsimp only; omega) (by dsimp only; omega) (by dsimp only; omega)
    · exact p1_case h0 qr_41 xs (by dsimp only; omega) (by dsimp only; omega) (by dsimp only; omega)
    · exact p1_case h0 qr_42 xs (by dsimp only; omega) (by dsimp only; omega) (by dsimp only; omega)
    · exact p1_case h0 qr_43 xs (by dsimp only; omega) (by dsimp only; omega) (by dsimp only; omega)
  · exact p1_case h0 qr_44 xs (by dsimp only; omega) (by dsimp only; omega) (by dsimp only; omega)
  · exact p1_case h0 qr_45 xs (by dsimp only; omega) (by dsimp only; omega) (by dsimp only; omega)
  · rcases (by omega : (-2147483648 ≤ (xs 1).toInt ∧ (xs 1).toInt ≤ -1) ∨ (0 ≤ (xs 1).toInt ∧ (xs 1).toInt ≤ 0) ∨ (1 ≤ (xs 1).toInt ∧ (xs 1).toInt ≤ 2147483647)) with g | g | g
    · exact p1_case h0 qr_46 xs (by dsimp only; omega) (by dsimp only; omega) (by dsimp only; omega)
    · exact p1_case h0 qr_47 xs (by dsimp only; omega) (by dsimp only; omega) (by dsimp only; omega)
    · exact p1_case h0 qr_48 xs (by dsimp only; omega) (by dsimp only; omega) (by dsimp only; omega)
  · exact p1_case h0 qr_49 xs (by dsimp only; omega) (by dsimp only; omega) (by dsimp only; omega)
  · rcases (by omega : (-2147483648 ≤ (xs 1).toInt ∧ (xs 1).toInt ≤ -1) ∨ (0 ≤ (xs 1).toInt ∧ (xs 1).toInt ≤ 0) ∨ (1 ≤ (xs 1).toInt ∧ (xs 1).toInt ≤ 2147483647)) with g | g | g
    · exact p1_case h0 qr_50 xs (by dsimp only; omega) (by dsimp only; omega) (by dsimp only; omega)
    · exact p1_case h0 qr_51 xs (by dsimp only; omega) (by dsimp only; omega) (by dsimp only; omega)
    · exact p1_case h0 qr_52 xs (by dsimp only; omega) (by dsimp only; omega) (by dsimp only; omega)
  · rcases (by omega : (-2147483648 ≤ (xs 1).toInt ∧ (xs 1).toInt ≤ -1) ∨ (0 ≤ (xs 1).toInt ∧ (xs 1).toInt ≤ 0) ∨ (1 ≤ (xs 1).toInt ∧ (xs 1).toInt ≤ 2147483647)) with g | g | g
    · exact p1_case h0 qr_53 xs (by dsimp only; omega) (by dsimp only; omega) (by dsimp only; omega)
    · exact p1_case h0 qr_54 xs (by dsimp only; omega) (by dsimp only; omega) (by dsimp only; omega)
    · exact p1_case h0 qr_55 xs (by dsimp only; omega) (by dsimp only; omega) (by dsimp only; omega)
  · exact p1_case h0 qr_56 xs (by dsimp only; omega) (by dsimp only; omega) (by dsimp only; omega)
  · exact p1_case h0 qr_57 xs (by dsimp only; omega) (by dsimp only; omega) (by dsimp only; omega)
  · exact p1_case h0 qr_58 xs (by dsimp only; omega) (by dsimp only; omega) (by dsimp only; omega)
  · exact p1_case h0 qr_59 xs (by dsimp only; omega) (by dsimp only; omega) (by dsimp only; omega)
  · rcases (by omega : (-2147483648 ≤ (xs 1).toInt ∧ (xs 1).toInt ≤ -1) ∨ (0 ≤ (xs 1).toInt ∧ (xs 1).toInt ≤ 0) ∨ (1 ≤ (xs 1).toInt ∧ (xs 1).toInt ≤ 2147483647)) with g | g | g
    · exact p1_case h0 qr_60 xs (by dsimp only; omega) (by dsimp only; omega) (by dsimp only; omega)
    · exact p1_case h0 qr_61 xs (by dsimp only; omega) (by dsimp only; omega) (by dsimp only; omega)
    · exact p1_case h0 qr_62 xs (by dsimp only; omega) (by dsimp only; omega) (by dsimp only; omega)
  · rcases (by omega : (-2147483648 ≤ (xs 1).toInt ∧ (xs 1).toInt ≤ -1) ∨ (0 ≤ (xs 1).toInt ∧ (xs 1).toInt ≤ 0) ∨ (1 ≤ (xs 1).toInt ∧ (xs 1).toInt ≤ 2147483647)) with g | g | g
    · exact p1_case h0 qr_63 xs (by dsimp only; omega) (by dsimp only; omega) (by dsimp only; omega)
    · exact p1_case h0 qr_64 xs (by dsimp only; omega) (by dsimp only; omega) (by dsimp only; omega)
    · exact p1_case h0 qr_65 xs (by dsimp only; omega) (by dsimp only; omega) (by dsimp only; omega)
  · exact p1_case h0 qr_66 xs (by dsimp only; omega) (by dsimp only; omega) (by dsimp only; omega)
  · rcases (by omega : (-2147483648 ≤ (xs 1).toInt ∧ (xs 1).toInt ≤ -1) ∨ (0 ≤ (xs 1).toInt ∧ (xs 1).toInt ≤ 0) ∨ (1 ≤ (xs 1).toInt ∧ (xs 1).toInt ≤ 2147483647)) with g | g | g
    · exact p1_case h0 qr_67 xs (by dsimp only; omega) (by dsimp only; omega) (by dsimp only; omega)
    · exact p1_case h0 qr_68 xs (by dsimp only; omega) (by dsimp only; omega) (by dsimp only; omega)
    · exact p1_case h0 qr_69 xs (by dsimp only; omega) (by dsimp only; omega) (by dsimp only; omega)
  · rcases (by omega : (-2147483648 ≤ (xs 1).toInt ∧ (xs 1).toInt ≤ -1) ∨ (0 ≤ (xs 1).toInt ∧ (xs 1).toInt ≤ 0) ∨ (1 ≤ (xs 1).toInt ∧ (xs 1).toInt ≤ 2147483647)) with g | g | g
    · exact p1_case h0 qr_70 xs (by dsimp only; omega) (by dsimp only; omega) (by dsimp only; omega)
    · exact p1_case h0 qr_71 xs (by dsimp only; omega) (by dsimp only; omega) (by dsimp only; omega)
    · exact p1_case h0 qr_72 xs (by dsimp only; omega) (by dsimp only; omega) (by dsimp only; omega)
  · exact p1_case h0 qr_73 xs (by dsimp only; omega) (by dsimp only; omega) (by dsimp only; omega)
  · exact p1_case h0 qr_74 xs (by dsimp only; omega) (by dsimp only; omega) (by dsimp only; omega)
  · exact p1_case h0 qr_75 xs (by dsimp only; omega) (by dsimp only; omega) (by dsimp only; omega)
  · exact p1_case h0 qr_76 xs (by dsimp only; omega) (by dsimp only; omega) (by dsimp only; omega)
  · exact p1_case h0 qr_77 xs (by dsimp only; omega) (by dsimp only; omega) (by dsimp only; omega)
  · exact p1_case h0 qr_78 xs (by dsimp only; omega) (by dsimp only; omega) (by dsimp only; omega)
  · exact p1_case h0 qr_79 xs (by dsimp only; omega) (by dsimp only; omega) (by dsimp only; omega)
theorem p1_owed (L : Nat) (hL : L ≤ 6) (xs : Nat → Int32) : g_Owed L xs := by
  match L, hL with
  | 0, _ => exact p0_0 xs
  | 1, _ => exact p0_1 xs
  | 2, _ => exact p0_2 xs
  | 3, _ => exact p0_3 xs
  | 4, _ => exact p0_4 xs
  | 5, _ => exact p0_5 xs
  | 6, _ => exact p1_six xs
  | n + 7, h => omega
