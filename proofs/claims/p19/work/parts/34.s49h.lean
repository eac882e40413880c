/-! housed: both together -/
theorem z_room9 {S : v_Sf} {R : v_Rf} (hT : v_Tb v_ty S R) : ∀ w, w < 6 → 0 ≤ (S 123 w).toInt ∧ (S 123 w).toInt ≤ 9 := by
  have k : v_TbC S R 123 (.inl (0, 6, (0, 9))) := hT 123 _ rfl
  exact fun w hw => k w hw
theorem z_pw3_all : ∀ K : Fin 4, ∀ n : Fin 7, f_X12_powerOf (z_i K.val) (z_i n.val) = z_i (K.val ^ n.val) := by decide +kernel
noncomputable def z_lodE (U : v_Sf) : Int32 × v_Sf := if (Int32.ofInt 1000) ≤ ((g_lodge (Int32.ofInt 0) (Int32.ofInt 0) (z_s U 76 12 (Int32.ofInt 1000))) 76 12) then (Int32.ofInt 0, g_lodge (Int32.ofInt 0) (Int32.ofInt 0) (z_s U 76 12 (Int32.ofInt 1000))) else (Int32.ofInt 1, g_lodge (Int32.ofInt 0) (Int32.ofInt 0) (z_s U 76 12 (Int32.ofInt 1000)))
theorem z_lod32 {c K : Nat} {S0 : v_Sf} {rm : Nat → Int32} (hK : K ≤ 3) (h76 : S0 76 5 = z_i K) (h78 : ∀ k, k < K → ∃ w, w < 6 ∧ S0 78 k = z_i w ∧ S0 (33 + 2 * w) 2 = rm k) : ∀ (q k : Nat) (U : v_Sf), k + q = K → (∀ a j, a ≠ 80 → a ≠ 81 → U a j = S0 a j) → (∀ k', k' < k → U 80 k' = rm k' ∧ U 81 k' = Int32.ofInt 0) → ∃ U', r_X4_lodge_32 c (8 - k) k U = z_lodE U' ∧ (∀ a j, a ≠ 80 → a ≠ 81 → U' a j = S0 a j) ∧ ∀ k', k' < K → U' 80 k' = rm k' ∧ U' 81 k' = Int32.ofInt 0 := by
  intro q
  induction q with
  | zero =>
    intro k U hk h1 h2
    obtain rfl : k = K := by omega
    refine ⟨U, ?_, h1, h2⟩
    rw [show 8 - k = (7 - k) + 1 by omega, r_X4_lodge_32, h1 76 5 (by omega) (by omega), h76, if_pos (show z_i k ≤ z_i k by rw [z_ile (by omega) (by omega)]; omega)]
    unfold z_lodE
    rfl
  | succ q ih =>
    intro k U hk h1 h2
    obtain ⟨w, w1, w2, w3⟩ := h78 k (by omega)
    have ek : (z_i k).toInt.toNat = k := z_iin (by omega)
    have ew : (z_i w).toInt.toNat = w := z_iin (by omega)
    rw [show 8 - k = (7 - k) + 1 by omega, r_X4_lodge_32, h1 76 5 (by omega) (by omega), h76, if_neg (show ¬ z_i K ≤ z_i k by rw [z_ile (by omega) (by omega)]; omega), if_neg (show ¬ Int32.ofInt 8 ≤ z_i k by rw [show Int32.ofInt 8 = z_i 8 from rfl, z_ile (by omega) (by omega)]; omega), ek, h1 78 k (by omega) (by omega), w2, if_neg (show ¬ Int32.ofNat 6 ≤ z_i w by rw [show Int32.ofNat 6 = z_i 6 from rfl, z_ile (by omega) (by omega)]; omega), ew, h1 (33 + 2 * w) 2 (by omega) (by omega), w3, show 7 - k = 8 - (k + 1) by omega]
    refine ih (k + 1) _ (by omega) (fun a j m1 m2 => by rw [z_sn (by omega), z_sn (by omega)]; exact h1 a j m1 m2) (fun k' hk' => ?_)
    by_cases e : k' = k
    · rw [e]
      exact ⟨by rw [z_sn (by omega), z_ss], z_ss⟩
    · have := h2 k' (by omega)
      exact ⟨by rw [z_sn (by omega), z_sn (by omega)]; exact this.1, by rw [z_sn (by omega), z_sn (by omega)]; exact this.2⟩
theorem z_hou_both {c b : Nat} (hc : z_cd c) {S T : v_Sf} (h : z_Rel c b S T) (h9 : ∀ w, w < 6 → 0 ≤ (T 123 w).toInt ∧ (T 123 w).toInt ≤ 9) {N M : Nat} (hN : N < 4096) (hM : M < 64) (hn1 : 1 ≤ z_cn N 12) (hn6 : z_cn N 12 ≤ 6) (hk1 : 1 ≤ z_cn M 12) (hk3 : z_cn M 12 ≤ 3) (ht : ∀ g, g < 12 → N.testBit g = true → ¬ T 116 g = 0) : ∃ V : v_Sf, f_X12_takesSome (z_i N) T = z_i (z_cn N 12) ∧ f_X12_takesPlaces (z_i M) (g_X12_takesSome (z_i N) T) = z_i (z_cn M 12) ∧ g_X12_takesPlaces (z_i M) (g_X12_takesSome (z_i N) T) = V ∧ ((f_X4_lodge c (z_i N) (z_i M) S = Int32.ofInt 0 ∧ ∀ x1 x3, (r_X12_housed_81 x1 x3 (z_i (z_cn N 12)) (z_i (z_cn M 12)) ((f_X12_powerOf (z_i (z_cn M 12)) (z_i (z_cn N 12))).toInt.toNat - 0) 0 (Int32.ofInt 1000000000) V).1 = Int32.ofInt (-2)) ∨ (f_X4_lodge c (z_i N) (z_i M) S = Int32.ofInt 1 ∧ ∀ x1 x3, ∃ U : v_Sf, (r_X12_housed_81 x1 x3 (z_i (z_cn N 12)) (z_i (z_cn M 12)) ((f_X12_powerOf (z_i (z_cn M 12)) (z_i (z_cn N 12))).toInt.toNat - 0) 0 (Int32.ofInt 1000000000) V).1 = (if ¬ x3 = Int32.ofInt 20 then U 153 ((U 155 ((f_X12_placeIn x1 x3).toInt.toNat)).toInt.toNat) else g_X4_lodge c (z_i N) (z_i M) S 76 12) ∧ ∀ j, j < z_cn N 12 → ∃ k, k < z_cn M 12 ∧ g_X4_lodge c (z_i N) (z_i M) S 84 j = z_i k ∧ U 155 j = z_i k ∧ g_X4_lodge c (z_i N) (z_i M) S 78 k = U 153 k)) := by
  have hcn := z_cdl hc
  obtain ⟨⟨nc, hB⟩, hP, hT, hK, hO, h17, h25⟩ := id h
  have hM6 : z_cn M 12 = z_cn M 6 := z_cn_hi (X := M) (m := 6) hM 6
  generalize hn : z_cn N 12 = n at *
  generalize hk : z_cn M 12 = K at *
  -- the rows of both
  obtain ⟨W1, w1, -, w3, w4⟩ := z_spr77 (X := N) (by omega) 12 0 S (by omega)
  obtain ⟨W2, x1, -, x3, x4⟩ := z_spr78 (X := M) (by omega) 12 0 (z_s W1 76 4 (z_i n)) (by omega)
  obtain ⟨Y1, v1, -, v3, v4⟩ := z_tks (X := N) 12 0 T (by omega)
  obtain ⟨Y2, y1, -, y3, y4⟩ := z_tkp (X := M) 6 0 Y1 (by omega)
  have gS1 : g_spread77 (z_i N) S = W1 ∧ f_spread77 (z_i N) S = z_i n := by
    unfold g_spread77 f_spread77 F_spread77
    rw [show 12 - 0 = 12 from rfl]
    have w1' : r_spread77_4 (z_i N) 12 0 (Int32.ofInt 0) S = (z_i n, W1) := by
      rw [← hn]
      exact w1
    rw [w1']
    exact ⟨rfl, rfl⟩
  have gS2 : g_spread78 (z_i M) (z_s W1 76 4 (z_i n)) = W2 ∧ f_spread78 (z_i M) (z_s W1 76 4 (z_i n)) = z_i K := by
    unfold g_spread78 f_spread78 F_spread78
    rw [show 12 - 0 = 12 from rfl]
    have x1' : r_spread78_4 (z_i M) 12 0 (Int32.ofInt 0) (z_s W1 76 4 (z_i n)) = (z_i K, W2) := by
      rw [← hk]
      exact x1
    rw [x1']
    exact ⟨rfl, rfl⟩
  have gT1 : g_X12_takesSome (z_i N) T = Y1 ∧ f_X12_takesSome (z_i N) T = z_i n := by
    unfold g_X12_takesSome f_X12_takesSome F_X12_takesSome
    rw [show 12 - 0 = 12 from rfl]
    have v1' : r_X12_takesSome_4 (z_i N) 12 0 (Int32.ofInt 0) T = (z_i n, Y1) := by
      rw [← hn]
      exact v1
    rw [v1']
    exact ⟨rfl, rfl⟩
  have gT2 : g_X12_takesPlaces (z_i M) Y1 = Y2 ∧ f_X12_takesPlaces (z_i M) Y1 = z_i K := by
    unfold g_X12_takesPlaces f_X12_takesPlaces F_X12_takesPlaces
    rw [show 6 - 0 = 6 from rfl]
    have y1' : r_X12_takesPlaces_4 (z_i M) 6 0 (Int32.ofInt 0) Y1 = (z_i K, Y2) := by
      rw [hM6]
      exact y1
    rw [y1']
    exact ⟨rfl, rfl⟩
  -- S0: the class's store ahead of the table
  have s0f : ∀ a j, a ≠ 77 → a ≠ 78 → ¬ (a = 76 ∧ (j = 4 ∨ j = 5)) → z_s W2 76 5 (z_i K) a j = S a j := fun a j h1 h2 h3 => by
    rw [z_sn (by omega), x4 a j h2, z_sn (by omega), w4 a j h1]
  have s77 : ∀ i, i < n → ∃ g, g < 12 ∧ z_s W2 76 5 (z_i K) 77 i = z_i g ∧ Y2 152 i = z_i g ∧ ¬ T 116 g = 0 := fun i hi => by
    obtain ⟨g, g5, g6, g7⟩ := z_cn_ex (X := N) 12 i (by omega)
    refine ⟨g, g5, ?_, ?_, ht g g5 g6⟩
    · rw [z_sn (by omega), x4 77 _ (by omega), z_sn (by omega), ← g7]
      exact w3 g (by omega) g5 g6
    · rw [y4 152 _ (by omega), ← g7]
      exact v3 g (by omega) g5 g6
  have s78 : ∀ k, k < K → ∃ w, w < 6 ∧ z_s W2 76 5 (z_i K) 78 k = z_i w ∧ Y2 153 k = z_i w := fun k hk' => by
    obtain ⟨w, w5, w6, w7⟩ := z_cn_ex (X := M) 6 k (by omega)
    refine ⟨w, w5, ?_, ?_⟩
    · rw [z_sn (by omega), ← w7]
      exact x3 w (by omega) (by omega) w6
    · rw [← w7]
      exact y3 w (by omega) w5 w6
  have s4 : z_s W2 76 5 (z_i K) 76 4 = z_i n := by rw [z_sn (by omega), x4 76 4 (by omega), z_ss]
  have s5 : z_s W2 76 5 (z_i K) 76 5 = z_i K := z_ss
  have eS : F_X4_lodge c (z_i N) (z_i M) S = r_X4_lodge_32 c 8 0 (g_X4_learnOdds c (z_s W2 76 5 (z_i K))) := by
    unfold F_X4_lodge
    rw [gS1.1, gS1.2, gS2.1, gS2.2, show 8 - 0 = 8 from rfl]
  generalize z_s W2 76 5 (z_i K) = S0 at *
  -- who quarrels with whom
  obtain ⟨od, hod⟩ : ∃ od : Nat → Nat → Prop, ∀ i k, od i k ↔ (i < n ∧ k < n ∧ ¬ f_X12_doQuarrel (Y2 152 i) (Y2 152 k) T = 0) := ⟨_, fun i k => Iff.rfl⟩
  have hs : ∀ i k, od i k → od k i := fun i k m => by
    obtain ⟨m1, m2, m3⟩ := (hod i k).mp m
    obtain ⟨g, g5, g6, g7, g8⟩ := s77 i m1
    obtain ⟨g', g5', g6', g7', g8'⟩ := s77 k m2
    rw [g7, g7'] at m3
    refine (hod k i).mpr ⟨m2, m1, ?_⟩
    rw [g7, g7']
    exact fun z => m3 ((z_quS hc hB g5 g5' g8 g8').mpr z)
  have hqC : ∀ U, (∀ a j, a ≠ 51 → a ≠ c + 3 → a ≠ 79 → U a j = S0 a j) → ∀ i j, i < n → j < n → i ≠ j → (f_X3_atOdds c 1 (S0 77 i) (S0 77 j) U = 0 ↔ ¬ od i j) ∧ ∀ a, a ≠ 51 → a ≠ c + 3 → g_X3_atOdds c 1 (S0 77 i) (S0 77 j) U a = U a := fun U hU i k hi hk' _ => by
    obtain ⟨g, g5, g6, g7, g8⟩ := s77 i hi
    obtain ⟨g', g5', g6', g7', g8'⟩ := s77 k hk'
    have hBU : z_Bs c 1 nc U T := z_Bs_f hB (fun a q => funext fun j => by rw [hU a j (by omega) (by omega) (by omega), s0f a j (by omega) (by omega) (by omega)]) (fun j q => by rw [hU 1 j (by omega) (by omega) (by omega), s0f 1 j (by omega) (by omega) (by omega)]) (fun a j q => rfl)
    obtain ⟨i1, i2, i3, i4⟩ := z_oddsB hc (Or.inl rfl) hBU g5 g5' g8 g8'
    rw [g6, g6', i1, hod, g7, g7']
    exact ⟨⟨fun z m => m.2.2 z, fun m => Classical.byContradiction fun z => m ⟨hi, hk', z⟩⟩, i3⟩
  obtain ⟨f1, f2⟩ := z_fill79 (Int32.ofInt 0) S0
  have At0 : z_At n (z_pr n od 0 (0 + 1)) (g_fill79 (Int32.ofInt 0) S0) := fun a ha => ⟨0, by decide, (f1 a (by omega)).trans rfl, fun b hb => by
    rw [Nat.zero_testBit]
    refine ⟨fun m => Bool.noConfusion m, fun m => ?_⟩
    unfold z_pr at m
    obtain ⟨⟨-, -, m1, -⟩, m2⟩ := m
    omega⟩
  obtain ⟨l1, l2⟩ := z_lo10 (n := n) (od := od) (S0 := S0) hc (by omega) s4 hs hqC n 0 (g_fill79 (Int32.ofInt 0) S0) (by omega) (fun a j _ _ m => f2 a j m) At0
  have eL : g_X4_learnOdds c S0 = r_X4_learnOdds_10 c (8 - 0) 0 (g_fill79 (Int32.ofInt 0) S0) := rfl
  rw [eL] at eS
  generalize r_X4_learnOdds_10 c (8 - 0) 0 (g_fill79 (Int32.ofInt 0) S0) = LL at *
  obtain ⟨-, hWa, -, -, -⟩ := id hB
  have h78 : ∀ k, k < K → ∃ w, w < 6 ∧ LL 78 k = z_i w ∧ LL (33 + 2 * w) 2 = T 123 ((Y2 153 k).toInt.toNat) := fun k hk' => by
    obtain ⟨w, w5, w6, w7⟩ := s78 k hk'
    refine ⟨w, w5, by rw [l1 78 k (by omega) (by omega) (by omega)]; exact w6, ?_⟩
    rw [l1 (33 + 2 * w) 2 (by omega) (by omega) (by omega), s0f (33 + 2 * w) 2 (by omega) (by omega) (by omega), w7, z_iin (by omega)]
    exact (hWa w w5).2.2.1
  obtain ⟨U', u1, u2, u3⟩ := z_lod32 (c := c) (S0 := LL) (rm := fun k => T 123 ((Y2 153 k).toInt.toNat)) hk3 (by rw [l1 76 5 (by omega) (by omega) (by omega)]; exact s5) h78 K 0 LL (by omega) (fun a j _ _ => rfl) (fun k' h => absurd h (Nat.not_lt_zero k'))
  have eF := eS.trans u1
  obtain ⟨room, hroom⟩ : ∃ room : Nat → Int, ∀ m, room m = (T 123 ((Y2 153 m).toInt.toNat)).toInt := ⟨_, fun m => rfl⟩
  have hbC : z_Bh n K od room (z_s U' 76 12 (Int32.ofInt 1000)) := by
    refine ⟨hn6, ⟨hk1, hk3⟩, ?_, ?_, fun k hk' => ?_, fun a ha => ?_⟩
    · rw [z_sn (by omega), u2 76 4 (by omega) (by omega), l1 76 4 (by omega) (by omega) (by omega)]
      exact s4
    · rw [z_sn (by omega), u2 76 5 (by omega) (by omega), l1 76 5 (by omega) (by omega) (by omega)]
      exact s5
    · rw [z_sn (by omega), hroom]
      exact congrArg Int32.toInt (u3 k hk').1
    · obtain ⟨A, q1, q2, q3⟩ := l2 a ha
      exact ⟨A, q1, by rw [z_sn (by omega), u2 79 a (by omega) (by omega)]; exact q2, q3⟩
  have rm0 : z_rm K room (fun _ => 0) 0 := ⟨fun j hj => absurd hj (Nat.not_lt_zero j), fun m hm => by
    obtain ⟨w, w5, w6, w7⟩ := s78 m hm
    have := (h9 w w5).1
    rw [hroom, w7, z_iin (by omega)]
    exact this⟩
  have I0 : z_Ih n K 0 (fun _ => 0) (1000, fun _ => 0) (z_s U' 76 12 (Int32.ofInt 1000)) (z_s U' 76 12 (Int32.ofInt 1000)) := ⟨fun a j _ => rfl, fun j hj => absurd hj (Nat.not_lt_zero j), fun k hk' => by
    rw [z_sn (by omega)]
    exact (u3 k hk').2.trans rfl, z_ss, fun m => absurd m (by decide), by decide, by decide⟩
  have IC := z_ldsr hbC n 0 8 (fun _ => 0) (1000, fun _ => 0) _ (by omega) (by omega) rm0 I0
  -- the reference
  have hqM : ∀ U, z_fN Y2 U → ∀ a b, a < n → b < n → a ≠ b → (f_X12_doQuarrel (Y2 152 a) (Y2 152 b) U = 0 ↔ ¬ od a b) ∧ ∀ a' j, ¬ (a' = 99 ∧ 27 ≤ j ∧ j ≤ 40) → a' ≠ 114 → a' ≠ 115 → g_X12_doQuarrel (Y2 152 a) (Y2 152 b) U a' j = U a' j := fun U hU i k hi hk' _ => by
    obtain ⟨g, g5, g6, g7, g8⟩ := s77 i hi
    obtain ⟨g', g5', g6', g7', g8'⟩ := s77 k hk'
    have gU : ∀ a j, ¬ (a = 99 ∧ 27 ≤ j ∧ j ≤ 40 ∨ a = 114 ∨ a = 115 ∨ 152 ≤ a ∧ a ≤ 155) → U a j = T a j := fun a j q => by rw [hU a j (by omega), y4 a j (by omega), v4 a j (by omega)]
    have hBU : z_Bs c 1 nc S U := z_Bs_f hB (fun a q => rfl) (fun j q => rfl) (fun a j q => gU a j (by omega))
    have t1 : ¬ U 116 g = 0 := by rw [gU 116 g (by omega)]; exact g8
    have t2 : ¬ U 116 g' = 0 := by rw [gU 116 g' (by omega)]; exact g8'
    have e := z_quT hc hB hBU g5 g5' g8 g8' t1 t2
    obtain ⟨-, -, -, i4⟩ := z_oddsB hc (Or.inl rfl) hBU g5 g5' t1 t2
    rw [hod, g7, g7', e]
    exact ⟨⟨fun z m => m.2.2 z, fun m => Classical.byContradiction fun z => m ⟨hi, hk', z⟩⟩, i4⟩
  have J0 : z_Jn n (1000, fun _ => 0) Y2 (Int32.ofInt 1000000000) Y2 := ⟨fun a j _ => rfl, (if_neg (by decide)).symm, fun m => absurd m (by decide), by decide, by decide⟩
  have hpw : f_X12_powerOf (z_i K) (z_i n) = z_i (K ^ n) := z_pw3_all ⟨K, by omega⟩ ⟨n, by omega⟩
  have hpl : K ^ n ≤ 3 ^ 6 := Nat.le_trans (Nat.pow_le_pow_left hk3 n) (Nat.pow_le_pow_right (by decide) hn6)
  have hpl2 : K ^ n ≤ 729 := hpl
  have JM := fun x1 x3 => z_hge hqM ⟨hn1, hn6⟩ ⟨hk1, hk3⟩ (room := room) (fun m hm => (congrArg Int32.toInt ((y4 123 _ (by omega)).trans (v4 123 _ (by omega)))).trans (hroom m).symm) x1 x3 (K ^ n) 0 (1000, fun _ => 0) (Int32.ofInt 1000000000) Y2 (by omega) J0
  -- together
  have gp := z_gp_h (n := n) (K := K) (od := od) (room := room)
  have E := z_ge_all (K := K) gp (fun _ => 0) (B := (1000, fun _ => 0)) (C := (1000, fun _ => 0)) ⟨rfl, fun j _ => rfl⟩
  have RG := z_rowG (n := n) (K := K) (ok := z_rm K room) (co := z_hsc od) (fun x m => m.1) n 0 (fun _ => 0) (1000, fun _ => 0) (fun m => absurd m (by decide))
  generalize z_gf K n (z_rm K room) (z_hsc od) n 0 (fun _ => 0) (1000, fun _ => 0) = BC at *
  generalize z_ge K n (z_rm K room) (z_hsc od) (K ^ n) 0 (1000, fun _ => 0) = BM at *
  obtain ⟨E1, E2⟩ := E
  obtain ⟨i1, -, -, i3, i4, i5, i6⟩ := IC
  have gs0 : g_lodgeN 8 (z_i 0) (Int32.ofInt (z_hsc od (fun _ => 0) 0)) (z_s U' 76 12 (Int32.ofInt 1000)) = g_lodge (Int32.ofInt 0) (Int32.ofInt 0) (z_s U' 76 12 (Int32.ofInt 1000)) := rfl
  rw [gs0] at i1 i3 i4
  unfold z_lodE at eF
  rw [i3] at eF
  generalize g_lodge (Int32.ofInt 0) (Int32.ofInt 0) (z_s U' 76 12 (Int32.ofInt 1000)) = G at *
  by_cases lt : BC.1 < 1000
  · rw [if_neg (by rw [z_oile (by omega) (by omega)]; omega)] at eF
    have fF : f_X4_lodge c (z_i N) (z_i M) S = Int32.ofInt 1 := by
      unfold f_X4_lodge
      rw [eF]
    have gF : g_X4_lodge c (z_i N) (z_i M) S = G := by
      unfold g_X4_lodge
      rw [eF]
    refine ⟨Y2, gT1.2, by rw [gT1.1]; exact gT2.2, by rw [gT1.1]; exact gT2.1, Or.inr ⟨fF, fun x1 x3 => ?_⟩⟩
    obtain ⟨y', U2, e1, e2⟩ := JM x1 x3
    obtain ⟨j1, j2, j3, j4, j5⟩ := e2
    rw [E1, if_pos lt] at j2
    have ne : ¬ Int32.ofInt BC.1 = Int32.ofInt 1000000000 := fun m => by
      have := congrArg Int32.toInt m
      rw [q_ofr (by omega) (by omega), q_ofr (by omega) (by omega)] at this
      omega
    refine ⟨U2, ?_, fun j hj => ?_⟩
    · rw [hpw, z_iin (by omega), Nat.sub_zero, e1, r_X12_housed_81, j2, if_pos ne, gF, i3]
      by_cases x : x3 = Int32.ofInt 20
      · rw [if_neg (not_not_intro x), if_neg (not_not_intro x)]
      · rw [if_pos x, if_pos x]
    · have rk := RG lt j hj
      obtain ⟨w, w5, w6, w7⟩ := s78 (BC.2 j) rk
      refine ⟨BC.2 j, rk, by rw [gF]; exact i4 lt j hj, ?_, ?_⟩
      · rw [j3 (by rw [E1]; exact lt) j hj, E2 j hj]
      · rw [gF, i1 78 _ (by omega), z_sn (by omega), u2 78 _ (by omega) (by omega), l1 78 _ (by omega) (by omega) (by omega), w6, j1 153 _ (by omega), w7]
  · rw [if_pos (by rw [z_oile (by omega) (by omega)]; omega)] at eF
    have fF : f_X4_lodge c (z_i N) (z_i M) S = Int32.ofInt 0 := by
      unfold f_X4_lodge
      rw [eF]
    refine ⟨Y2, gT1.2, by rw [gT1.1]; exact gT2.2, by rw [gT1.1]; exact gT2.1, Or.inl ⟨fF, fun x1 x3 => ?_⟩⟩
    obtain ⟨y', U2, e1, e2⟩ := JM x1 x3
    have j2 := e2.2.1
    rw [E1, if_neg lt] at j2
    rw [hpw, z_iin (by omega), Nat.sub_zero, e1, r_X12_housed_81, j2, if_neg (not_not_intro rfl)]
theorem z_housed_ans {c b : Nat} (hc : z_cd c) {S T : v_Sf} (h : z_Rel c b S T) (h9 : ∀ w, w < 6 → 0 ≤ (T 123 w).toInt ∧ (T 123 w).toInt ≤ 9) (a p x : Int32) : f_X11_housed c a p x S = f_X12_housed a p x T := by
  obtain ⟨⟨nc, hB⟩, _⟩ := id h
  obtain ⟨e0, e1⟩ := z_chosen hB.1.1 a (lo := Int32.ofInt 1) (hi := Int32.ofInt 6) (by decide)
  rw [e0] at e1
  unfold f_X11_housed f_X12_housed F_X12_housed
  rw [e0]
  by_cases q : f_X12_areGusts a (Int32.ofInt 1) (Int32.ofInt 6) T = 0
  · rw [if_pos q, if_pos q]
  · obtain ⟨N, hN, rfl, n1, n6, hNt⟩ := e1 q
    have n1' : 1 ≤ z_cn N 12 := by
      have : (1 : Int) ≤ (z_cn N 12 : Int) := n1
      omega
    have n6' : z_cn N 12 ≤ 6 := by
      have : (z_cn N 12 : Int) ≤ (6 : Int) := n6
      omega
    rw [if_neg q, if_neg q]
    by_cases r : 0 ≤ p.toInt ∧ p.toInt ≤ 63
    · obtain ⟨M, hM, rfl⟩ : ∃ M, M < 64 ∧ p = z_i M := ⟨p.toInt.toNat, by omega, (z_ofN r.1).symm⟩
      have epM : f_X12_sizeOf (z_i M) = z_i (z_cn M 12) := by
        have e := z_bc12 (x := z_i M) (by rw [z_it3 (by omega)]; omega)
        rw [z_bcN (by omega)] at e
        exact e.symm
      have cM := z_cn12 M
      rw [if_neg (fun m => z_within.mp m r), z_bcN (show M < 4096 by omega), epM]
      by_cases m0 : M = 0
      · have e00 : z_cn M 12 = 0 := by rw [m0]; decide
        rw [if_pos (show z_i (z_cn M 12) < Int32.ofInt 1 by rw [e00]; decide), if_pos (show z_in (z_i M) 1 63 = 0 from z_in0.mpr (by rw [z_it3 (by omega)]; omega))]
      · obtain ⟨g, hg⟩ := Nat.exists_testBit_of_ne_zero m0
        have hg12 : g < 12 := by
          refine Classical.byContradiction (fun m => ?_)
          rw [Nat.testBit_lt_two_pow (by have : 2 ^ 12 ≤ 2 ^ g := Nat.pow_le_pow_right (by decide) (by omega); omega)] at hg
          cases hg
        have c1 : 1 ≤ z_cn M 12 := by
          have := z_cn_lt hg12 hg
          omega
        rw [if_neg (show ¬ z_i (z_cn M 12) < Int32.ofInt 1 by rw [show Int32.ofInt 1 = z_i 1 from rfl, z_ilt (by omega) (by omega)]; omega), if_neg (show ¬ z_in (z_i M) 1 63 = 0 from fun m => z_in0.mp m (by rw [z_it3 (by omega)]; omega))]
        by_cases k3 : z_cn M 12 ≤ 3
        · rw [if_pos (show z_i (z_cn M 12) ≤ Int32.ofInt 3 by rw [show Int32.ofInt 3 = z_i 3 from rfl, z_ile (by omega) (by omega)]; exact k3), if_neg (show ¬ Int32.ofInt 3 < z_i (z_cn M 12) by rw [show Int32.ofInt 3 = z_i 3 from rfl, z_ilt (by omega) (by omega)]; omega)]
          obtain ⟨V, s1, s2, s3, s4⟩ := z_hou_both hc h h9 hN hM n1' n6' c1 k3 hNt
          rw [s1, s2, s3]
          by_cases x20 : x = Int32.ofInt 20
          · rw [if_pos x20, if_pos x20]
            rcases s4 with ⟨f0, t0⟩ | ⟨f0, t0⟩
            · rw [f0, if_neg (show ¬ ¬ Int32.ofInt 0 = 0 from fun m => m rfl), t0]
            · obtain ⟨U, u1, -⟩ := t0 (z_i N) x
              rw [f0, if_pos (show ¬ Int32.ofInt 1 = 0 by decide), u1, if_neg (not_not_intro x20)]
          · rw [if_neg x20, if_neg x20]
            by_cases xr : 0 ≤ x.toInt ∧ x.toInt ≤ 11
            · obtain ⟨k, hk, rfl⟩ : ∃ k, k < 12 ∧ x = z_i k := ⟨x.toInt.toNat, by omega, (z_ofN xr.1).symm⟩
              have hI := z_isInN (X := N) (g := k) hk
              have hH := z_hasN0 (X := N) (g := k) hk
              rw [if_neg (show ¬ z_in (z_i k) 0 11 = 0 from fun m => z_in0.mp m xr)]
              by_cases t : N.testBit k = true
              · have i1 : ¬ f_X11_isIn (z_i N) (z_i k) = 0 := fun m => by rw [hI.mp m] at t; cases t
                have i2 : ¬ f_X12_has (z_i N) (z_i k) = 0 := fun m => by rw [hH.mp m] at t; cases t
                rw [if_pos i1, if_pos i2]
                rcases s4 with ⟨f0, t0⟩ | ⟨f0, t0⟩
                · rw [f0, if_neg (show ¬ ¬ Int32.ofInt 0 = 0 from fun m => m rfl), t0]
                · obtain ⟨U, u1, u2⟩ := t0 (z_i N) (z_i k)
                  have hl := z_cn_lt hk t
                  obtain ⟨kk, k1, k2, k3', k4⟩ := u2 (z_cn N k) hl
                  rw [f0, if_pos (show ¬ Int32.ofInt 1 = 0 by decide), u1, if_pos x20, z_plcM hN hk, z_iin (by omega), k3', z_iin (by omega), ← k4]
                  unfold f_X4_chosenFor
                  rw [if_pos i1, z_plc hN hk, if_neg (by rw [show Int32.ofInt 8 = z_i 8 from rfl, z_ile (by omega) (by omega)]; omega), z_iin (by omega), k2, if_neg (by rw [show (0 : Int32) = z_i 0 from rfl, z_ilt (by omega) (by omega)]; omega), if_pos (by rw [show Int32.ofInt 8 = z_i 8 from rfl, z_ilt (by omega) (by omega)]; omega), z_iin (by omega)]
              · have t2 : N.testBit k = false := by simpa using t
                rw [if_neg (not_not_intro (hI.mpr t2)), if_neg (not_not_intro (hH.mpr t2))]
            · rw [if_pos (show z_in x 0 11 = 0 from z_in0.mpr xr), if_neg (not_not_intro (z_isInO hN xr))]
        · rw [if_neg (show ¬ z_i (z_cn M 12) ≤ Int32.ofInt 3 by rw [show Int32.ofInt 3 = z_i 3 from rfl, z_ile (by omega) (by omega)]; exact k3), if_pos (show Int32.ofInt 3 < z_i (z_cn M 12) by rw [show Int32.ofInt 3 = z_i 3 from rfl, z_ilt (by omega) (by omega)]; omega)]
    · rw [if_pos (z_within.mpr r), if_pos (show z_in p 1 63 = 0 from z_in0.mpr (by omega))]
section CA_housed
variable {L : Nat} {xs : Nat → Int32} {S : v_Sf} {R : v_Rf} {Q : Option Value → v_Sf → v_Rf → Prop}
theorem a_X11_housed (v1 v2 v3 : Int32) (hT : v_Tb v_ty S R) (hO : v_Op S) (hK : z_K S R) (hq : ∀ S' R', v_Tb v_ty S' R' → v_Op S' → z_K S' R' → Q (some (.int (f_X12_housed v1 v2 v3 S'))) S' R') : w_T L xs 59 m_X11_housed 0 (lv_args 0 [.ref 1, .int v1, .int v2, .int v3]) [] S R Q := by
  obtain ⟨c, b, e, hr, hR⟩ := id hK
  obtain ⟨hc, hb, he, hn, hL, hB, hE, hW⟩ := id hr
  refine z_use (v_met 60 134 rw_161 (List.mem_of_getElem? (i := 0) rfl) (Nat.le_of_ble_eq_true rfl)) (Nat.le_of_ble_eq_true rfl) mt_X11_housed ⟨rfl, ⟨_, rfl, (q_rng _).1, (q_rng _).2⟩, ⟨_, rfl, (q_rng _).1, (q_rng _).2⟩, ⟨_, rfl, (q_rng _).1, (q_rng _).2⟩, trivial⟩ hT hO (fun n d => c_X11_housed L xs n d hW hL hc v1 v2 v3 S) (fun r S1 R1 S2 R2 hT1 hO1 hr1 hF ee q => ?_)
  have hS1 := z_K_T hc hb hR hF rfl
  obtain ⟨v, hv, hRR, hf, hg⟩ := q
  have k1 := z_housed_ans hc hS1 (z_room9 hT1) v1 v2 v3
  rw [← hv, ← hf, k1]
  exact hq S1 R1 hT1 hO1 (z_K_fr hK hF rfl)
theorem a_X12_housed (v1 v2 v3 : Int32) (hT : v_Tb v_ty S R) (hO : v_Op S) (hK : z_K S R) (hq : ∀ S' R', v_Tb v_ty S' R' → v_Op S' → z_K S' R' → Q (some (.int (f_X12_housed v1 v2 v3 S))) S' R') : w_T L xs 59 m_X12_housed 0 (lv_args 0 [.ref 100, .int v1, .int v2, .int v3]) [] S R Q := by
  refine z_use (v_met 60 259 rw_228 (List.mem_of_getElem? (i := 0) rfl) (Nat.le_of_ble_eq_true rfl)) (Nat.le_of_ble_eq_true rfl) mt_X12_housed ⟨rfl, ⟨_, rfl, (q_rng _).1, (q_rng _).2⟩, ⟨_, rfl, (q_rng _).1, (q_rng _).2⟩, ⟨_, rfl, (q_rng _).1, (q_rng _).2⟩, trivial⟩ hT hO (fun n d => c_X12_housed L xs n d v1 v2 v3 S R) (fun r S1 R1 S2 R2 hT1 hO1 hr1 hF ee q => ?_)
  obtain ⟨v, hv, hRR, hf, hg⟩ := q
  rw [← hv, ← hf]
  exact hq S1 R1 hT1 hO1 (z_K_fr hK hF rfl)
end CA_housed
