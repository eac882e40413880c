/-! nursed: the class's table, and both together -/
theorem z_sub2 {a b : Int32} {m : Nat} (hm : m ≤ 12) (hb : 0 ≤ b.toInt ∧ b.toInt ≤ (2 ^ m - 1 : Nat)) (h : a &&& (b ^^^ Int32.ofInt (-1)) = 0) : ∃ X, X < 2 ^ m ∧ a = z_i X ∧ ∀ g, g < 12 → X.testBit g = true → z_bit b g := by
  have hp : 2 ^ m ≤ 2 ^ 12 := Nat.pow_le_pow_right (by decide) hm
  obtain ⟨r, s⟩ := z_sub (a := a) (b := b) ⟨hb.1, by omega⟩ h
  obtain ⟨X, hX, rfl⟩ : ∃ X, X < 4096 ∧ a = z_i X := ⟨a.toInt.toNat, by omega, (z_ofN r.1).symm⟩
  have hbn := z_toN hb.1
  have s2 : ∀ g, g < 12 → X.testBit g = true → z_bit b g := fun g hg m => s g hg ((z_bitN hg).mpr m)
  refine ⟨X, Nat.lt_pow_two_of_testBit _ (fun i hi => ?_), rfl, s2⟩
  by_cases q : i < 12
  · rw [← Bool.not_eq_true]
    intro t
    have e := s2 i q t
    rw [z_bitL _ q, BitVec.getLsbD, Nat.testBit_lt_two_pow (by have : 2 ^ m ≤ 2 ^ i := Nat.pow_le_pow_right (by decide) hi; have : 1 ≤ 2 ^ m := Nat.one_le_two_pow; omega)] at e
    cases e
  · refine Nat.testBit_lt_two_pow ?_
    have : 2 ^ 12 ≤ 2 ^ i := Nat.pow_le_pow_right (by decide) (by omega)
    omega
section NT
variable {c n : Nat} {cst : Nat → Nat → Int} {S0 : v_Sf}
theorem z_s46 (hc : z_cd c) (h5 : n ≤ 5) (h76 : S0 76 5 = z_i n) (hill : ∀ U, (∀ a j, a ≠ 51 → a ≠ c + 3 → a ≠ 82 → U a j = S0 a j) → ∀ i k, i < n → k < n → f_X3_illness c 1 (S0 77 i) (S0 78 k) U = Int32.ofInt (cst i k) ∧ ∀ a, a ≠ 51 → a ≠ c + 3 → g_X3_illness c 1 (S0 77 i) (S0 78 k) U a = U a) {i : Nat} (hi : i < n) (κ : v_Sf → v_Sf) : ∀ (q k : Nat) (U : v_Sf), k + q = n → (∀ a j, a ≠ 51 → a ≠ c + 3 → a ≠ 82 → U a j = S0 a j) → (∀ i' k', i' < i → k' < n → U 82 (8 * i' + k') = Int32.ofInt (cst i' k')) → (∀ k', k' < k → U 82 (8 * i + k') = Int32.ofInt (cst i k')) → ∃ U', r_X4_staff_46 c κ i (8 - k) k U = κ U' ∧ (∀ a j, a ≠ 51 → a ≠ c + 3 → a ≠ 82 → U' a j = S0 a j) ∧ ∀ i' k', i' < i + 1 → k' < n → U' 82 (8 * i' + k') = Int32.ofInt (cst i' k') := by
  have hcn := z_cdl hc
  have ei : (z_i i).toInt.toNat = i := z_iin (by omega)
  intro q
  induction q with
  | zero =>
    intro k U hk h1 h2 h3
    obtain rfl : k = n := by omega
    refine ⟨U, ?_, h1, fun i' k' h4 h5 => ?_⟩
    · rw [show 8 - k = (7 - k) + 1 by omega, r_X4_staff_46, h1 76 5 (by omega) (by omega) (by omega), h76, if_pos (by rw [z_ile (by omega) (by omega)]; omega)]
    · by_cases e : i' = i
      · rw [e]
        exact h3 k' h5
      · exact h2 i' k' (by omega) h5
  | succ q ih =>
    intro k U hk h1 h2 h3
    have ek : (z_i k).toInt.toNat = k := z_iin (by omega)
    obtain ⟨f1, f2⟩ := hill U h1 i k hi (by omega)
    have e82 : (((z_i i) * (Int32.ofInt 8)) + (z_i k)).toInt.toNat = 8 * i + k := by
      rw [show Int32.ofInt 8 = z_i 8 from rfl, z_imul, z_iadd, z_iin (by omega), Nat.mul_comm]
    rw [show 8 - k = (7 - k) + 1 by omega, r_X4_staff_46, h1 76 5 (by omega) (by omega) (by omega), h76, if_neg (by rw [z_ile (by omega) (by omega)]; omega), if_neg (by rw [show Int32.ofInt 8 = z_i 8 from rfl, z_ile (by omega) (by omega)]; omega), ei, ek, h1 77 i (by omega) (by omega) (by omega), h1 78 k (by omega) (by omega) (by omega), f1, e82, show 7 - k = 8 - (k + 1) by omega]
    refine ih (k + 1) _ (by omega) (fun a j m1 m2 m3 => ?_) (fun i' k' m1 m2 => ?_) (fun k' m1 => ?_)
    · rw [z_sn (by omega), f2 a m1 m2]
      exact h1 a j m1 m2 m3
    · rw [z_sn (by omega), f2 82 (by omega) (by omega)]
      exact h2 i' k' m1 m2
    · by_cases e : k' = k
      · rw [e, z_ss]
      · rw [z_sn (by omega), f2 82 (by omega) (by omega)]
        exact h3 k' (by omega)
theorem z_s27 (hc : z_cd c) (h5 : n ≤ 5) (h764 : S0 76 4 = z_i n) (h76 : S0 76 5 = z_i n) (hill : ∀ U, (∀ a j, a ≠ 51 → a ≠ c + 3 → a ≠ 82 → U a j = S0 a j) → ∀ i k, i < n → k < n → f_X3_illness c 1 (S0 77 i) (S0 78 k) U = Int32.ofInt (cst i k) ∧ ∀ a, a ≠ 51 → a ≠ c + 3 → g_X3_illness c 1 (S0 77 i) (S0 78 k) U a = U a) : ∀ (q i : Nat) (U : v_Sf), i + q = n → (∀ a j, a ≠ 51 → a ≠ c + 3 → a ≠ 82 → U a j = S0 a j) → (∀ i' k', i' < i → k' < n → U 82 (8 * i' + k') = Int32.ofInt (cst i' k')) → ∃ U', r_X4_staff_27 c (8 - i) i U = g_staff (Int32.ofInt 0) (Int32.ofInt 0) (Int32.ofInt 0) (z_s U' 76 12 (Int32.ofInt 1000)) ∧ (∀ a j, a ≠ 51 → a ≠ c + 3 → a ≠ 82 → U' a j = S0 a j) ∧ ∀ i' k', i' < n → k' < n → U' 82 (8 * i' + k') = Int32.ofInt (cst i' k') := by
  have hcn := z_cdl hc
  intro q
  induction q with
  | zero =>
    intro i U hi h1 h2
    obtain rfl : i = n := by omega
    exact ⟨U, by rw [show 8 - i = (7 - i) + 1 by omega, r_X4_staff_27, h1 76 4 (by omega) (by omega) (by omega), h764, if_pos (by rw [z_ile (by omega) (by omega)]; omega)], h1, h2⟩
  | succ q ih =>
    intro i U hi h1 h2
    rw [show 8 - i = (7 - i) + 1 by omega, r_X4_staff_27, h1 76 4 (by omega) (by omega) (by omega), h764, if_neg (by rw [z_ile (by omega) (by omega)]; omega), if_neg (by rw [show Int32.ofInt 8 = z_i 8 from rfl, z_ile (by omega) (by omega)]; omega), show 8 - 0 = 8 from rfl]
    obtain ⟨U', u1, u2, u3⟩ := z_s46 hc h5 h76 hill (i := i) (by omega) (fun S => r_X4_staff_27 c (7 - i) (i + 1) S) n 0 U (by omega) h1 h2 (fun k' h => absurd h (Nat.not_lt_zero k'))
    have u1' : r_X4_staff_46 c (fun S => r_X4_staff_27 c (7 - i) (i + 1) S) i 8 0 U = r_X4_staff_27 c (7 - i) (i + 1) U' := u1
    rw [u1', show 7 - i = 8 - (i + 1) by omega]
    exact ih (i + 1) U' (by omega) u2 u3
end NT
theorem z_fall_r (k w : Int32) (T : v_Sf) : 0 ≤ (f_X12_falling k w T).toInt ∧ (f_X12_falling k w T).toInt ≤ 10 := by
  unfold f_X12_falling f_X12_tells F_X12_tells
  exact z_tells_r (L := Int32.ofInt 105) (most := Int32.ofInt 10) (by decide) _ _ _
theorem z_pwn_all : ∀ n : Fin 6, f_X12_powerOf (z_i n.val) (z_i n.val) = z_i (n.val ^ n.val) := by decide +kernel
theorem z_gs_row {n : Nat} {cst : Nat → Nat → Int} {x : Nat → Nat} {B : z_Gt} (hB : B.1 < 1000 → ∀ j, j < n → B.2 j < n) : (z_gs n (z_ord n) (z_cs cst) x B).1 < 1000 → ∀ j, j < n → (z_gs n (z_ord n) (z_cs cst) x B).2 j < n := by
  unfold z_gs
  by_cases q : z_ord n x n ∧ z_cs cst x n < B.1
  · rw [if_pos q]
    exact fun _ j hj => q.1.1 j hj
  · rw [if_neg q]
    exact hB
theorem z_gf_row {n : Nat} {cst : Nat → Nat → Int} : ∀ (r i : Nat) (x : Nat → Nat) (B : z_Gt), i + r = n → (∀ j, j < i → x j < n) → (B.1 < 1000 → ∀ j, j < n → B.2 j < n) → (z_gf n n (z_ord n) (z_cs cst) r i x B).1 < 1000 → ∀ j, j < n → (z_gf n n (z_ord n) (z_cs cst) r i x B).2 j < n := by
  intro r
  induction r with
  | zero => intro i x B _ _ hB; rw [z_gf]; exact z_gs_row hB
  | succ r ih =>
    intro i x B hi hx hB
    rw [z_gf]
    have lp : ∀ (q k : Nat) (B : z_Gt), k + q = n → (B.1 < 1000 → ∀ j, j < n → B.2 j < n) → (z_gk (fun k B => z_gf n n (z_ord n) (z_cs cst) r (i + 1) (z_u5 x i k) B) q k B).1 < 1000 → ∀ j, j < n → (z_gk (fun k B => z_gf n n (z_ord n) (z_cs cst) r (i + 1) (z_u5 x i k) B) q k B).2 j < n := by
      intro q
      induction q with
      | zero => intro k B _ hB; exact hB
      | succ q ih2 =>
        intro k B hk hB
        rw [z_gk]
        refine ih2 (k + 1) _ (by omega) (ih (i + 1) _ B (by omega) (fun j hj => ?_) hB)
        by_cases e : j = i
        · rw [e, z_u5s]
          omega
        · rw [z_u5n e]
          exact hx j (by omega)
    exact lp n 0 B (by omega) hB
/-- both searches, once the numbers fit -/
theorem z_nur_both {c b : Nat} (hc : z_cd c) {S T : v_Sf} (h : z_Rel c b S T) {N M : Nat} (hN : N < 32) (hM : M < 64) (hn1 : 1 ≤ z_cn M 12) (hnn : z_cn N 12 = z_cn M 12) (ht : ∀ g, g < 12 → N.testBit g = true → ¬ T 129 g = 0) : ∃ (S' V : v_Sf) (y : Int32) (U : Int32 → v_Sf), g_X4_staff c (z_i N) (z_i M) S = S' ∧ f_X12_takesPlaces (z_i M) T = z_i (z_cn M 12) ∧ f_X12_takesSome (z_i N) (g_X12_takesPlaces (z_i M) T) = z_i (z_cn M 12) ∧ (∀ x3, r_X12_nursed_84 (z_i M) x3 (z_i (z_cn M 12)) (z_i (z_cn M 12)) ((f_X12_powerOf (z_i (z_cn M 12)) (z_i (z_cn M 12))).toInt.toNat - 0) 0 (Int32.ofInt 1000000000) (g_X12_takesSome (z_i N) (g_X12_takesPlaces (z_i M) T)) = (if ¬ x3 = Int32.ofInt 20 then (U x3 152 ((U x3 155 ((f_X12_placeIn (z_i M) x3).toInt.toNat)).toInt.toNat), U x3) else (y, U x3))) ∧ S' 76 12 = y ∧ (∀ x3 j, j < z_cn M 12 → ∃ k, k < z_cn M 12 ∧ S' 84 j = z_i k ∧ U x3 155 j = z_i k ∧ S' 78 k = U x3 152 k) := by
  have hcn := z_cdl hc
  obtain ⟨⟨nc, hB⟩, hP, hT, hK, hO, h17, h25⟩ := id h
  have hcM : z_cn M 12 = z_cn M 6 := z_cn_hi (X := M) (m := 6) hM 6
  have hcN : z_cn N 12 = z_cn N 5 := z_cn_hi (X := N) (m := 5) hN 7
  have hN5 := z_cnk N 5
  have hc5 : z_cn M 12 ≤ 5 := by omega
  have hM6 : z_cn M 12 = z_cn M 6 := hcM
  generalize hn : z_cn M 12 = n at *
  -- the rows of both
  obtain ⟨W1, w1, -, w3, w4⟩ := z_spr77 (X := M) (by omega) 12 0 S (by omega)
  obtain ⟨W2, x1, -, x3, x4⟩ := z_spr78 (X := N) (by omega) 12 0 (z_s W1 76 4 (z_i n)) (by omega)
  obtain ⟨Y1, y1, -, y3, y4⟩ := z_tkp (X := M) 6 0 T (by omega)
  obtain ⟨Y2, v1, -, v3, v4⟩ := z_tks (X := N) 12 0 Y1 (by omega)
  have gS1 : g_spread77 (z_i M) S = W1 ∧ f_spread77 (z_i M) S = z_i n := by
    unfold g_spread77 f_spread77 F_spread77
    rw [show 12 - 0 = 12 from rfl]
    have w1' : r_spread77_4 (z_i M) 12 0 (Int32.ofInt 0) S = (z_i n, W1) := by
      rw [← hn]
      exact w1
    rw [w1']
    exact ⟨rfl, rfl⟩
  have gS2 : g_spread78 (z_i N) (z_s W1 76 4 (z_i n)) = W2 ∧ f_spread78 (z_i N) (z_s W1 76 4 (z_i n)) = z_i n := by
    unfold g_spread78 f_spread78 F_spread78
    rw [show 12 - 0 = 12 from rfl]
    have x1' : r_spread78_4 (z_i N) 12 0 (Int32.ofInt 0) (z_s W1 76 4 (z_i n)) = (z_i n, W2) := by
      have e : (z_i (z_cn N 12), W2) = (z_i n, W2) := by rw [hnn]
      exact x1.trans e
    rw [x1']
    exact ⟨rfl, rfl⟩
  have gT1 : g_X12_takesPlaces (z_i M) T = Y1 ∧ f_X12_takesPlaces (z_i M) T = z_i n := by
    unfold g_X12_takesPlaces f_X12_takesPlaces F_X12_takesPlaces
    rw [show 6 - 0 = 6 from rfl]
    have y1' : r_X12_takesPlaces_4 (z_i M) 6 0 (Int32.ofInt 0) T = (z_i n, Y1) := by
      rw [hM6]
      exact y1
    rw [y1']
    exact ⟨rfl, rfl⟩
  have gT2 : g_X12_takesSome (z_i N) Y1 = Y2 ∧ f_X12_takesSome (z_i N) Y1 = z_i n := by
    unfold g_X12_takesSome f_X12_takesSome F_X12_takesSome
    rw [show 12 - 0 = 12 from rfl]
    have v1' : r_X12_takesSome_4 (z_i N) 12 0 (Int32.ofInt 0) Y1 = (z_i n, Y2) := by
      rw [← hnn]
      exact v1
    rw [v1']
    exact ⟨rfl, rfl⟩
  -- S0: the class's store ahead of the table
  have s0f : ∀ a j, a ≠ 77 → a ≠ 78 → ¬ (a = 76 ∧ (j = 4 ∨ j = 5)) → z_s W2 76 5 (z_i n) a j = S a j := fun a j h1 h2 h3 => by
    rw [z_sn (by omega), x4 a j h2, z_sn (by omega), w4 a j h1]
  have s77 : ∀ i, i < n → ∃ w, w < 6 ∧ z_s W2 76 5 (z_i n) 77 i = z_i w ∧ Y2 153 i = z_i w := fun i hi => by
    obtain ⟨w, w5, w6, w7⟩ := z_cn_ex (X := M) 6 i (by omega)
    refine ⟨w, w5, ?_, ?_⟩
    · rw [z_sn (by omega), x4 77 _ (by omega), z_sn (by omega), ← w7]
      exact w3 w (by omega) (by omega) w6
    · rw [v4 153 _ (by omega), ← w7]
      exact y3 w (by omega) w5 w6
  have s78 : ∀ k, k < n → ∃ g, g < 5 ∧ z_s W2 76 5 (z_i n) 78 k = z_i g ∧ Y2 152 k = z_i g ∧ ¬ T 129 g = 0 := fun k hk => by
    obtain ⟨g, g5, g6, g7⟩ := z_cn_ex (X := N) 5 k (by omega)
    refine ⟨g, g5, ?_, ?_, ht g (by omega) g6⟩
    · rw [z_sn (by omega), ← g7]
      exact x3 g (by omega) (by omega) g6
    · rw [← g7]
      exact v3 g (by omega) (by omega) g6
  have s4 : z_s W2 76 5 (z_i n) 76 4 = z_i n := by rw [z_sn (by omega), x4 76 4 (by omega), z_ss]
  have s5 : z_s W2 76 5 (z_i n) 76 5 = z_i n := z_ss
  have eS : g_X4_staff c (z_i N) (z_i M) S = r_X4_staff_27 c 8 0 (z_s W2 76 5 (z_i n)) := by
    unfold g_X4_staff F_X4_staff
    rw [gS1.1, gS1.2, gS2.1, gS2.2, show 8 - 0 = 8 from rfl]
  generalize z_s W2 76 5 (z_i n) = S0 at *
  let cst : Nat → Nat → Int := fun i k => if i < n ∧ k < n then (f_X12_falling (Y2 152 k) (Y2 153 i) T).toInt else 0
  have hcst : ∀ i k, 0 ≤ cst i k ∧ cst i k ≤ 10 := fun i k => by
    show 0 ≤ (if i < n ∧ k < n then (f_X12_falling (Y2 152 k) (Y2 153 i) T).toInt else 0) ∧ (if i < n ∧ k < n then (f_X12_falling (Y2 152 k) (Y2 153 i) T).toInt else 0) ≤ 10
    by_cases q : i < n ∧ k < n
    · rw [if_pos q]
      exact z_fall_r _ _ T
    · rw [if_neg q]
      decide
  have ecst : ∀ i k, i < n → k < n → Int32.ofInt (cst i k) = f_X12_falling (Y2 152 k) (Y2 153 i) T := fun i k hi hk => by
    show Int32.ofInt (if i < n ∧ k < n then (f_X12_falling (Y2 152 k) (Y2 153 i) T).toInt else 0) = _
    rw [if_pos ⟨hi, hk⟩, Int32.ofInt_toInt]
  have hill : ∀ U, (∀ a j, a ≠ 51 → a ≠ c + 3 → a ≠ 82 → U a j = S0 a j) → ∀ i k, i < n → k < n → f_X3_illness c 1 (S0 77 i) (S0 78 k) U = Int32.ofInt (cst i k) ∧ ∀ a, a ≠ 51 → a ≠ c + 3 → g_X3_illness c 1 (S0 77 i) (S0 78 k) U a = U a := fun U hU i k hi hk => by
    obtain ⟨w, w5, w6, w7⟩ := s77 i hi
    obtain ⟨g, g5, g6, g7, g8⟩ := s78 k hk
    have hBU : z_Bs c 1 nc U T := z_Bs_f hB (fun a q => funext fun j => by rw [hU a j (by omega) (by omega) (by omega), s0f a j (by omega) (by omega) (by omega)]) (fun j q => by rw [hU 1 j (by omega) (by omega) (by omega), s0f 1 j (by omega) (by omega) (by omega)]) (fun a j q => rfl)
    obtain ⟨i1, i2, i3, i4⟩ := z_illB hc (Or.inl rfl) hBU w5 g5 g8
    rw [ecst i k hi hk, w6, g6, w7, g7]
    exact ⟨i1, i3⟩
  obtain ⟨U1, u1, u2, u3⟩ := z_s27 hc hc5 s4 s5 hill n 0 S0 (by omega) (fun a j _ _ _ => rfl) (fun i' k' h => absurd h (Nat.not_lt_zero i'))
  have hbC : z_Bst n cst (z_s U1 76 12 (Int32.ofInt 1000)) := by
    refine ⟨hc5, ?_, ?_, hcst, fun i k hi hk => ?_⟩
    · rw [z_sn (by omega), u2 76 4 (by omega) (by omega) (by omega)]
      exact s4
    · rw [z_sn (by omega), u2 76 5 (by omega) (by omega) (by omega)]
      exact s5
    · rw [z_sn (by omega)]
      exact u3 i k hi hk
  have I0 : z_Is n 0 (fun j => j) (1000, fun _ => 0) (z_s U1 76 12 (Int32.ofInt 1000)) (z_s U1 76 12 (Int32.ofInt 1000)) := ⟨fun a j _ => rfl, fun j hj => absurd hj (Nat.not_lt_zero j), z_ss, fun m => absurd m (by decide), by decide, by decide⟩
  have IC := z_stsr hbC n 0 8 (fun j => j) (1000, fun _ => 0) _ (by omega) (by omega) ⟨fun j hj => absurd hj (Nat.not_lt_zero j), fun j hj => absurd hj (Nat.not_lt_zero j)⟩ I0
  -- the reference
  have hf : ∀ U, z_fN Y2 U → ∀ i k, i < n → k < n → f_X12_falling (Y2 152 k) (Y2 153 i) U = Int32.ofInt (cst i k) ∧ ∀ a j, ¬ (a = 99 ∧ 27 ≤ j ∧ j ≤ 40) → a ≠ 114 → a ≠ 115 → g_X12_falling (Y2 152 k) (Y2 153 i) U a j = U a j := fun U hU i k hi hk => by
    obtain ⟨w, w5, w6, w7⟩ := s77 i hi
    obtain ⟨g, g5, g6, g7, g8⟩ := s78 k hk
    have gU : ∀ a j, ¬ (a = 99 ∧ 27 ≤ j ∧ j ≤ 40 ∨ a = 114 ∨ a = 115 ∨ 152 ≤ a ∧ a ≤ 155) → U a j = T a j := fun a j q => by rw [hU a j (by omega), v4 a j (by omega), y4 a j (by omega)]
    have hBU : z_Bs c 1 nc S U := z_Bs_f hB (fun a q => rfl) (fun j q => rfl) (fun a j q => gU a j (by omega))
    obtain ⟨i1, i2, i3, i4⟩ := z_illB hc (Or.inl rfl) hBU w5 g5 (by rw [gU 129 g (by omega)]; exact g8)
    obtain ⟨k1, -, -, -⟩ := z_illB hc (Or.inl rfl) hB w5 g5 g8
    rw [ecst i k hi hk, w7, g7]
    exact ⟨i1.symm.trans k1, i4⟩
  have hnp : n ^ n ≤ 5 ^ 5 := Nat.le_trans (Nat.pow_le_pow_left hc5 n) (Nat.pow_le_pow_right (by decide) hc5)
  have hpw : f_X12_powerOf (z_i n) (z_i n) = z_i (n ^ n) := z_pwn_all ⟨n, by omega⟩
  have J0 : z_Jn n (1000, fun _ => 0) Y2 (Int32.ofInt 1000000000) Y2 := ⟨fun a j _ => rfl, rfl, fun m => absurd m (by decide), by decide, by decide⟩
  have JM := fun x3 => z_nge hf hcst hn1 hc5 (z_i M) x3 (n ^ n) 0 (1000, fun _ => 0) (Int32.ofInt 1000000000) Y2 (by omega) J0
  -- together
  have gp := z_gp_n (n := n) (fun i k => (hcst i k).1)
  have E := z_ge_all (K := n) gp (fun j => j) (B := (1000, fun _ => 0)) (C := (1000, fun _ => 0)) ⟨rfl, fun j _ => rfl⟩
  have okw : z_ord n (fun j => j) n := ⟨fun j hj => hj, fun j hj l hl e => by have e2 : l = j := e; omega⟩
  have P0 := z_gf_at (K := n) gp (w := fun j => j) (fun j hj => hj) okw n 0 (fun j => j) (1000, fun _ => 0) (by omega) (fun j hj => rfl)
  have cb := z_cs_b hcst (fun j => j) n
  -- rows of the best are choices
  have R0 := z_gf_row (n := n) (cst := cst) n 0 (fun j => j) (1000, fun _ => 0) (by omega) (fun j hj => absurd hj (Nat.not_lt_zero j)) (fun m => absurd m (by decide))
  generalize z_gf n n (z_ord n) (z_cs cst) n 0 (fun j => j) (1000, fun _ => 0) = BC at *
  generalize z_ge n n (z_ord n) (z_cs cst) (n ^ n) 0 (1000, fun _ => 0) = BM at *
  obtain ⟨E1, E2⟩ := E
  have lt : BC.1 < 1000 := by omega
  obtain ⟨i1, -, i3, i4, -, -⟩ := IC
  have gs0 : g_staffN 8 (z_i 0) (z_i (z_un (fun j => j) 0)) (Int32.ofInt (z_cs cst (fun j => j) 0)) (z_s U1 76 12 (Int32.ofInt 1000)) = g_staff (Int32.ofInt 0) (Int32.ofInt 0) (Int32.ofInt 0) (z_s U1 76 12 (Int32.ofInt 1000)) := rfl
  rw [gs0] at i1 i3 i4
  have u1' : r_X4_staff_27 c 8 0 S0 = g_staff (Int32.ofInt 0) (Int32.ofInt 0) (Int32.ofInt 0) (z_s U1 76 12 (Int32.ofInt 1000)) := u1
  obtain ⟨Yf, hY⟩ := Classical.axiomOfChoice JM
  obtain ⟨Uf, hU⟩ := Classical.axiomOfChoice hY
  refine ⟨_, Y2, Int32.ofInt BC.1, Uf, eS.trans u1', gT1.2, by rw [gT1.1]; exact gT2.2, fun x3 => ?_, i3, fun x3 j hj => ?_⟩
  · obtain ⟨e1, e2⟩ := hU x3
    have ey : Yf x3 = Int32.ofInt BC.1 := by
      rw [e2.2.1, E1, if_pos lt]
    rw [gT1.1, gT2.1, hpw, z_iin (by omega), Nat.sub_zero, e1, ey]
  · obtain ⟨e1, e2⟩ := hU x3
    obtain ⟨j1, j2, j3, j4, j5⟩ := e2
    have rk := R0 lt j hj
    refine ⟨BC.2 j, rk, i4 lt j hj, ?_, ?_⟩
    · rw [j3 (by rw [E1]; exact lt) j hj, E2 j hj]
    · obtain ⟨g, g5, g6, g7, g8⟩ := s78 (BC.2 j) rk
      rw [i1 78 _ (by omega), z_sn (by omega), u2 78 _ (by omega) (by omega) (by omega), g6, j1 152 _ (by omega), g7]
theorem z_nursed_ans {c b : Nat} (hc : z_cd c) {S T : v_Sf} (h : z_Rel c b S T) (a w x : Int32) : f_X11_nursed c a w x S = f_X12_nursed a w x T := by
  obtain ⟨⟨nc, hB⟩, _⟩ := id h
  have h8 := hB.1.2.2.2.2.2.2.2.1
  unfold f_X11_nursed f_X12_nursed F_X12_nursed
  rw [z_toldN h8]
  by_cases q : a &&& ((S 1 7) ^^^ (Int32.ofInt (-1))) = 0
  · obtain ⟨N, hN, rfl, hNt⟩ := z_sub2 (m := 5) (by decide) h8.1 q
    have hN : N < 32 := hN
    have a31 : ¬ f_X11_within (z_i N) (Int32.ofInt 31) = 0 := fun m => z_within.mp m (by rw [z_it3 (by omega)]; exact ⟨by omega, by show (N : Int) ≤ 31; omega⟩)
    have epN : f_X12_sizeOf (z_i N) = z_i (z_cn N 12) := by
      have e := z_bc12 (x := z_i N) (by rw [z_it3 (by omega)]; omega)
      rw [z_bcN (by omega)] at e
      exact e.symm
    rw [if_neg a31]
    by_cases r : 0 ≤ w.toInt ∧ w.toInt ≤ 63
    · obtain ⟨M, hM, rfl⟩ : ∃ M, M < 64 ∧ w = z_i M := ⟨w.toInt.toNat, by omega, (z_ofN r.1).symm⟩
      have epM : f_X12_sizeOf (z_i M) = z_i (z_cn M 12) := by
        have e := z_bc12 (x := z_i M) (by rw [z_it3 (by omega)]; omega)
        rw [z_bcN (by omega)] at e
        exact e.symm
      have cM := z_cn12 M
      have cN := z_cn12 N
      have cN5 : z_cn N 12 ≤ 5 := by
        have e : z_cn N 12 = z_cn N 5 := z_cn_hi (X := N) (m := 5) hN 7
        have := z_cnk N 5
        omega
      rw [if_neg (fun m => z_within.mp m r), z_bcN (show M < 4096 by omega), z_bcN (show N < 4096 by omega), epN, epM]
      by_cases n0 : N = 0
      · have e0 : z_cn N 12 = 0 := by rw [n0]; decide
        rw [if_pos (show z_i N < Int32.ofInt 1 by rw [show Int32.ofInt 1 = z_i 1 from rfl, z_ilt (by omega) (by omega)]; omega)]
        by_cases m0 : z_cn M 12 < 1
        · rw [if_pos (show z_i (z_cn M 12) < Int32.ofInt 1 by rw [show Int32.ofInt 1 = z_i 1 from rfl, z_ilt (by omega) (by omega)]; omega)]
        · rw [if_neg (show ¬ z_i (z_cn M 12) < Int32.ofInt 1 by rw [show Int32.ofInt 1 = z_i 1 from rfl, z_ilt (by omega) (by omega)]; omega), if_neg (fun m => by have := congrArg (fun z => z.toInt.toNat) m; simp only [z_iin (show z_cn M 12 < 2147483648 by omega), z_iin (show z_cn N 12 < 2147483648 by omega)] at this; omega)]
      · rw [if_neg (show ¬ z_i N < Int32.ofInt 1 by rw [show Int32.ofInt 1 = z_i 1 from rfl, z_ilt (by omega) (by omega)]; omega), if_neg (not_not_intro q)]
        by_cases m0 : M = 0
        · have e0 : z_cn M 12 = 0 := by rw [m0]; decide
          rw [if_pos (show z_i (z_cn M 12) < Int32.ofInt 1 by rw [e0]; decide), if_neg (not_not_intro q), if_pos (z_in0.mpr (by rw [z_it3 (by omega)]; omega))]
        · obtain ⟨g, hg⟩ := Nat.exists_testBit_of_ne_zero m0
          have hg12 : g < 12 := by
            refine Classical.byContradiction (fun m => ?_)
            rw [Nat.testBit_lt_two_pow (by have : 2 ^ 12 ≤ 2 ^ g := Nat.pow_le_pow_right (by decide) (by omega); omega)] at hg
            cases hg
          have c1 : 1 ≤ z_cn M 12 := by
            have := z_cn_lt hg12 hg
            omega
          rw [if_neg (show ¬ z_i (z_cn M 12) < Int32.ofInt 1 by rw [show Int32.ofInt 1 = z_i 1 from rfl, z_ilt (by omega) (by omega)]; omega), if_neg (fun m => z_in0.mp m (by rw [z_it3 (by omega)]; omega))]
          by_cases en : z_cn N 12 = z_cn M 12
          · obtain ⟨S', V, y, U, s1, s2, s3, s4, s5, s6⟩ := z_nur_both hc h hN hM c1 en (fun g hg t => by
              have hg5 : g < 5 := by
                refine Classical.byContradiction (fun m => ?_)
                rw [Nat.testBit_lt_two_pow (by have : 2 ^ 5 ≤ 2 ^ g := Nat.pow_le_pow_right (by decide) (by omega); omega)] at t
                cases t
              exact (h8.2 g hg5).mp (hNt g hg t))
            rw [if_pos (show z_i (z_cn M 12) = z_i (z_cn N 12) by rw [en]), if_neg (not_not_intro q), if_neg (show ¬ ¬ z_i (z_cn N 12) = z_i (z_cn M 12) from fun m => m (by rw [en])), s1, s2, s3, s4, s5]
            by_cases x20 : x = Int32.ofInt 20
            · rw [if_pos x20, if_pos x20, if_neg (not_not_intro x20)]
            · rw [if_neg x20, if_neg x20, if_pos x20]
              by_cases xr : 0 ≤ x.toInt ∧ x.toInt ≤ 5
              · obtain ⟨k, hk, rfl⟩ : ∃ k, k < 6 ∧ x = z_i k := ⟨x.toInt.toNat, by omega, (z_ofN xr.1).symm⟩
                have hI := z_isInN (X := M) (g := k) (by omega)
                have hH := z_hasN0 (X := M) (g := k) (by omega)
                rw [if_neg (show ¬ f_X12_isWard (z_i k) = 0 from fun m => z_in0.mp m xr)]
                by_cases t : M.testBit k = true
                · have i1 : ¬ f_X11_isIn (z_i M) (z_i k) = 0 := fun m => by rw [hI.mp m] at t; cases t
                  have i2 : ¬ f_X12_has (z_i M) (z_i k) = 0 := fun m => by rw [hH.mp m] at t; cases t
                  have hl := z_cn_lt (show k < 12 by omega) t
                  obtain ⟨kk, k1, k2, k3, k4⟩ := s6 (z_i k) (z_cn M k) hl
                  rw [if_pos i1, if_pos i2, z_plcM (by omega) (by omega), z_iin (by omega), k3, z_iin (by omega), ← k4]
                  unfold f_X4_chosenFor
                  rw [if_pos i1, z_plc (by omega) (by omega), if_neg (by rw [show Int32.ofInt 8 = z_i 8 from rfl, z_ile (by omega) (by omega)]; omega), z_iin (by omega), k2, if_neg (by rw [show (0 : Int32) = z_i 0 from rfl, z_ilt (by omega) (by omega)]; omega), if_pos (by rw [show Int32.ofInt 8 = z_i 8 from rfl, z_ilt (by omega) (by omega)]; omega), z_iin (by omega)]
                · have t2 : M.testBit k = false := by simpa using t
                  rw [if_neg (not_not_intro (hI.mpr t2)), if_neg (not_not_intro (hH.mpr t2))]
              · rw [if_pos (show f_X12_isWard x = 0 from z_in0.mpr xr), if_neg]
                refine not_not_intro ?_
                by_cases xr2 : 0 ≤ x.toInt ∧ x.toInt ≤ 11
                · obtain ⟨k, hk, rfl⟩ : ∃ k, k < 12 ∧ x = z_i k := ⟨x.toInt.toNat, by omega, (z_ofN xr2.1).symm⟩
                  rw [z_it3 (by omega)] at xr
                  refine (z_isInN (X := M) (g := k) (by omega)).mpr (Nat.testBit_lt_two_pow ?_)
                  have : 2 ^ 6 ≤ 2 ^ k := Nat.pow_le_pow_right (by decide) (by omega)
                  omega
                · exact z_isInO (by omega) xr2
          · have ne : ¬ z_i (z_cn M 12) = z_i (z_cn N 12) := fun m => by have := congrArg (fun z => z.toInt.toNat) m; simp only [z_iin (show z_cn M 12 < 2147483648 by omega), z_iin (show z_cn N 12 < 2147483648 by omega)] at this; omega
            rw [if_neg ne, if_neg (not_not_intro q), if_pos (show ¬ z_i (z_cn N 12) = z_i (z_cn M 12) from fun m => ne m.symm)]
    · rw [if_pos (z_within.mpr r)]
      by_cases n0 : z_i N < Int32.ofInt 1
      · rw [if_pos n0]
      · rw [if_neg n0, if_neg (not_not_intro q), if_pos (z_in0.mpr (by omega))]
  · rw [if_pos q, if_pos q]
    simp only [ite_self]
section CA_nursed
variable {L : Nat} {xs : Nat → Int32} {S : v_Sf} {R : v_Rf} {Q : Option Value → v_Sf → v_Rf → Prop}
theorem a_X11_nursed (v1 v2 v3 : Int32) (hT : v_Tb v_ty S R) (hO : v_Op S) (hK : z_K S R) (hq : ∀ S' R', v_Tb v_ty S' R' → v_Op S' → z_K S' R' → Q (some (.int (f_X12_nursed v1 v2 v3 S'))) S' R') : w_T L xs 59 m_X11_nursed 0 (lv_args 0 [.ref 1, .int v1, .int v2, .int v3]) [] S R Q := by
  obtain ⟨c, b, e, hr, hR⟩ := id hK
  obtain ⟨hc, hb, he, hn, hL, hB, hE, hW⟩ := id hr
  refine z_use (v_met 60 142 rw_169 (List.mem_of_getElem? (i := 0) rfl) (Nat.le_of_ble_eq_true rfl)) (Nat.le_of_ble_eq_true rfl) mt_X11_nursed ⟨rfl, ⟨_, rfl, (q_rng _).1, (q_rng _).2⟩, ⟨_, rfl, (q_rng _).1, (q_rng _).2⟩, ⟨_, rfl, (q_rng _).1, (q_rng _).2⟩, trivial⟩ hT hO (fun n d => c_X11_nursed L xs n d hW hL hc v1 v2 v3 S) (fun r S1 R1 S2 R2 hT1 hO1 hr1 hF ee q => ?_)
  have hS1 := z_K_T hc hb hR hF rfl
  obtain ⟨v, hv, hRR, hf, hg⟩ := q
  have k1 := z_nursed_ans hc hS1 v1 v2 v3
  rw [← hv, ← hf, k1]
  exact hq S1 R1 hT1 hO1 (z_K_fr hK hF rfl)
theorem a_X12_nursed (v1 v2 v3 : Int32) (hT : v_Tb v_ty S R) (hO : v_Op S) (hK : z_K S R) (hq : ∀ S' R', v_Tb v_ty S' R' → v_Op S' → z_K S' R' → Q (some (.int (f_X12_nursed v1 v2 v3 S))) S' R') : w_T L xs 59 m_X12_nursed 0 (lv_args 0 [.ref 100, .int v1, .int v2, .int v3]) [] S R Q := by
  refine z_use (v_met 60 288 rw_262 (List.mem_of_getElem? (i := 0) rfl) (Nat.le_of_ble_eq_true rfl)) (Nat.le_of_ble_eq_true rfl) mt_X12_nursed ⟨rfl, ⟨_, rfl, (q_rng _).1, (q_rng _).2⟩, ⟨_, rfl, (q_rng _).1, (q_rng _).2⟩, ⟨_, rfl, (q_rng _).1, (q_rng _).2⟩, trivial⟩ hT hO (fun n d => c_X12_nursed L xs n d v1 v2 v3 S R) (fun r S1 R1 S2 R2 hT1 hO1 hr1 hF ee q => ?_)
  obtain ⟨v, hv, hRR, hf, hg⟩ := q
  rw [← hv, ← hf]
  exact hq S1 R1 hT1 hO1 (z_K_fr hK hF rfl)
end CA_nursed
