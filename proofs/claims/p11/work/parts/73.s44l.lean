/-! a State copied -/
theorem z_cps {S : v_Sf} {a0 a j k : Nat} {m : Int32} (hm : m.toInt.toNat = k) (h : j < k) : z_cp S a0 a m a j = S a0 j := by rw [z_cp_eq, if_pos ⟨rfl, by omega⟩]
theorem z_cpn {S : v_Sf} {a0 a b j : Nat} {m : Int32} (h : b ≠ a) : z_cp S a0 a m b j = S b j := by rw [z_cp_eq, if_neg (fun q => h q.1)]
theorem z_copy {s t : Nat} (hd : s + 10 ≤ t ∨ t + 10 ≤ s) (S : v_Sf) : (∀ a j, ¬ (s ≤ a ∧ a ≤ s + 9) → g_X7_copy s t S a j = S a j) ∧ (∀ i j, (1 ≤ i ∧ i ≤ 6 ∧ j < 12 ∨ (i = 7 ∨ i = 8) ∧ j < 5 ∨ i = 9 ∧ j < 6) → g_X7_copy s t S (s + i) j = S (t + i) j) ∧ (∀ j, (j = 0 ∨ j = 7 ∨ 11 ≤ j ∧ j ≤ 14) → g_X7_copy s t S s j = S t j) := by
  have m12 : (Int32.ofInt 12).toInt.toNat = 12 := rfl
  have m5 : (Int32.ofInt 5).toInt.toNat = 5 := rfl
  have m6 : (Int32.ofInt 6).toInt.toNat = 6 := rfl
  unfold g_X7_copy
  generalize h1 : z_s S s 0 (S t 0) = A1
  generalize h2 : z_cp A1 (t + 1) (s + 1) (Int32.ofInt 12) = A2
  generalize h3 : z_cp A2 (t + 2) (s + 2) (Int32.ofInt 12) = A3
  generalize h4 : z_cp A3 (t + 3) (s + 3) (Int32.ofInt 12) = A4
  generalize h5 : z_cp A4 (t + 4) (s + 4) (Int32.ofInt 12) = A5
  generalize h6 : z_cp A5 (t + 5) (s + 5) (Int32.ofInt 12) = A6
  generalize h7 : z_cp A6 (t + 6) (s + 6) (Int32.ofInt 12) = A7
  generalize h8 : z_s A7 s 7 (A7 t 7) = A8
  generalize h9 : z_cp A8 (t + 7) (s + 7) (Int32.ofInt 5) = A9
  generalize h10 : z_cp A9 (t + 8) (s + 8) (Int32.ofInt 5) = A10
  generalize h11 : z_cp A10 (t + 9) (s + 9) (Int32.ofInt 6) = A11
  generalize h12 : z_s A11 s 11 (A11 t 11) = A12
  generalize h13 : z_s A12 s 12 (A12 t 12) = A13
  generalize h14 : z_s A13 s 13 (A13 t 13) = A14
  generalize h15 : z_s A14 s 14 (A14 t 14) = A15
  have f1 : ∀ a j, ¬ (s ≤ a ∧ a ≤ s + 9) → A1 a j = S a j := fun a j q => by rw [← h1, z_sn (by omega)]
  have f2 : ∀ a j, ¬ (s ≤ a ∧ a ≤ s + 9) → A2 a j = S a j := fun a j q => by rw [← h2, z_cpn (by omega), f1 a j q]
  have f3 : ∀ a j, ¬ (s ≤ a ∧ a ≤ s + 9) → A3 a j = S a j := fun a j q => by rw [← h3, z_cpn (by omega), f2 a j q]
  have f4 : ∀ a j, ¬ (s ≤ a ∧ a ≤ s + 9) → A4 a j = S a j := fun a j q => by rw [← h4, z_cpn (by omega), f3 a j q]
  have f5 : ∀ a j, ¬ (s ≤ a ∧ a ≤ s + 9) → A5 a j = S a j := fun a j q => by rw [← h5, z_cpn (by omega), f4 a j q]
  have f6 : ∀ a j, ¬ (s ≤ a ∧ a ≤ s + 9) → A6 a j = S a j := fun a j q => by rw [← h6, z_cpn (by omega), f5 a j q]
  have f7 : ∀ a j, ¬ (s ≤ a ∧ a ≤ s + 9) → A7 a j = S a j := fun a j q => by rw [← h7, z_cpn (by omega), f6 a j q]
  have f8 : ∀ a j, ¬ (s ≤ a ∧ a ≤ s + 9) → A8 a j = S a j := fun a j q => by rw [← h8, z_sn (by omega), f7 a j q]
  have f9 : ∀ a j, ¬ (s ≤ a ∧ a ≤ s + 9) → A9 a j = S a j := fun a j q => by rw [← h9, z_cpn (by omega), f8 a j q]
  have f10 : ∀ a j, ¬ (s ≤ a ∧ a ≤ s + 9) → A10 a j = S a j := fun a j q => by rw [← h10, z_cpn (by omega), f9 a j q]
  have f11 : ∀ a j, ¬ (s ≤ a ∧ a ≤ s + 9) → A11 a j = S a j := fun a j q => by rw [← h11, z_cpn (by omega), f10 a j q]
  have f12 : ∀ a j, ¬ (s ≤ a ∧ a ≤ s + 9) → A12 a j = S a j := fun a j q => by rw [← h12, z_sn (by omega), f11 a j q]
  have f13 : ∀ a j, ¬ (s ≤ a ∧ a ≤ s + 9) → A13 a j = S a j := fun a j q => by rw [← h13, z_sn (by omega), f12 a j q]
  have f14 : ∀ a j, ¬ (s ≤ a ∧ a ≤ s + 9) → A14 a j = S a j := fun a j q => by rw [← h14, z_sn (by omega), f13 a j q]
  have f15 : ∀ a j, ¬ (s ≤ a ∧ a ≤ s + 9) → A15 a j = S a j := fun a j q => by rw [← h15, z_sn (by omega), f14 a j q]
  refine ⟨f15, fun i j q => ?_, fun j q => ?_⟩
  · have q2 : i = 1 ∧ j < 12 ∨ i = 2 ∧ j < 12 ∨ i = 3 ∧ j < 12 ∨ i = 4 ∧ j < 12 ∨ i = 5 ∧ j < 12 ∨ i = 6 ∧ j < 12 ∨ i = 7 ∧ j < 5 ∨ i = 8 ∧ j < 5 ∨ i = 9 ∧ j < 6 := by omega
    rcases q2 with ⟨rfl, q2⟩ | ⟨rfl, q2⟩ | ⟨rfl, q2⟩ | ⟨rfl, q2⟩ | ⟨rfl, q2⟩ | ⟨rfl, q2⟩ | ⟨rfl, q2⟩ | ⟨rfl, q2⟩ | ⟨rfl, q2⟩
    · rw [← h15, z_sn (by omega), ← h14, z_sn (by omega), ← h13, z_sn (by omega), ← h12, z_sn (by omega), ← h11, z_cpn (by omega), ← h10, z_cpn (by omega), ← h9, z_cpn (by omega), ← h8, z_sn (by omega), ← h7, z_cpn (by omega), ← h6, z_cpn (by omega), ← h5, z_cpn (by omega), ← h4, z_cpn (by omega), ← h3, z_cpn (by omega), ← h2, z_cps m12 (by omega), f1 _ _ (by omega)]
    · rw [← h15, z_sn (by omega), ← h14, z_sn (by omega), ← h13, z_sn (by omega), ← h12, z_sn (by omega), ← h11, z_cpn (by omega), ← h10, z_cpn (by omega), ← h9, z_cpn (by omega), ← h8, z_sn (by omega), ← h7, z_cpn (by omega), ← h6, z_cpn (by omega), ← h5, z_cpn (by omega), ← h4, z_cpn (by omega), ← h3, z_cps m12 (by omega), f2 _ _ (by omega)]
    · rw [← h15, z_sn (by omega), ← h14, z_sn (by omega), ← h13, z_sn (by omega), ← h12, z_sn (by omega), ← h11, z_cpn (by omega), ← h10, z_cpn (by omega), ← h9, z_cpn (by omega), ← h8, z_sn (by omega), ← h7, z_cpn (by omega), ← h6, z_cpn (by omega), ← h5, z_cpn (by omega), ← h4, z_cps m12 (by omega), f3 _ _ (by omega)]
    · rw [← h15, z_sn (by omega), ← h14, z_sn (by omega), ← h13, z_sn (by omega), ← h12, z_sn (by omega), ← h11, z_cpn (by omega), ← h10, z_cpn (by omega), ← h9, z_cpn (by omega), ← h8, z_sn (by omega), ← h7, z_cpn (by omega), ← h6, z_cpn (by omega), ← h5, z_cps m12 (by omega), f4 _ _ (by omega)]
    · rw [← h15, z_sn (by omega), ← h14, z_sn (by omega), ← h13, z_sn (by omega), ← h12, z_sn (by omega), ← h11, z_cpn (by omega), ← h10, z_cpn (by omega), ← h9, z_cpn (by omega), ← h8, z_sn (by omega), ← h7, z_cpn (by omega), ← h6, z_cps m12 (by omega), f5 _ _ (by omega)]
    · rw [← h15, z_sn (by omega), ← h14, z_sn (by omega), ← h13, z_sn (by omega), ← h12, z_sn (by omega), ← h11, z_cpn (by omega), ← h10, z_cpn (by omega), ← h9, z_cpn (by omega), ← h8, z_sn (by omega), ← h7, z_cps m12 (by omega), f6 _ _ (by omega)]
    · rw [← h15, z_sn (by omega), ← h14, z_sn (by omega), ← h13, z_sn (by omega), ← h12, z_sn (by omega), ← h11, z_cpn (by omega), ← h10, z_cpn (by omega), ← h9, z_cps m5 (by omega), f8 _ _ (by omega)]
    · rw [← h15, z_sn (by omega), ← h14, z_sn (by omega), ← h13, z_sn (by omega), ← h12, z_sn (by omega), ← h11, z_cpn (by omega), ← h10, z_cps m5 (by omega), f9 _ _ (by omega)]
    · rw [← h15, z_sn (by omega), ← h14, z_sn (by omega), ← h13, z_sn (by omega), ← h12, z_sn (by omega), ← h11, z_cps m6 (by omega), f10 _ _ (by omega)]
  · have q2 : j = 0 ∨ j = 7 ∨ j = 11 ∨ j = 12 ∨ j = 13 ∨ j = 14 := by omega
    rcases q2 with rfl | rfl | rfl | rfl | rfl | rfl
    · rw [← h15, z_sn (by omega), ← h14, z_sn (by omega), ← h13, z_sn (by omega), ← h12, z_sn (by omega), ← h11, z_cpn (by omega), ← h10, z_cpn (by omega), ← h9, z_cpn (by omega), ← h8, z_sn (by omega), ← h7, z_cpn (by omega), ← h6, z_cpn (by omega), ← h5, z_cpn (by omega), ← h4, z_cpn (by omega), ← h3, z_cpn (by omega), ← h2, z_cpn (by omega), ← h1, z_ss]
    · rw [← h15, z_sn (by omega), ← h14, z_sn (by omega), ← h13, z_sn (by omega), ← h12, z_sn (by omega), ← h11, z_cpn (by omega), ← h10, z_cpn (by omega), ← h9, z_cpn (by omega), ← h8, z_ss, f7 _ _ (by omega)]
    · rw [← h15, z_sn (by omega), ← h14, z_sn (by omega), ← h13, z_sn (by omega), ← h12, z_ss, f11 _ _ (by omega)]
    · rw [← h15, z_sn (by omega), ← h14, z_sn (by omega), ← h13, z_ss, f12 _ _ (by omega)]
    · rw [← h15, z_sn (by omega), ← h14, z_ss, f13 _ _ (by omega)]
    · rw [← h15, z_ss, f14 _ _ (by omega)]
/-! laid aside, brought back -/
theorem z_imul (a b : Nat) : z_i a * z_i b = z_i (a * b) := by
  unfold z_i
  rw [← Int32.ofInt_mul, Int.natCast_mul]
theorem z_ix {n ρ k : Nat} (h : n * ρ + k < 2147483648) : ((Int32.ofInt (n : Int)) * (z_i ρ) + z_i k).toInt.toNat = n * ρ + k := by
  rw [show Int32.ofInt (n : Int) = z_i n from rfl, z_imul, z_iadd, z_iin h]
theorem z_la1 {ρ : Nat} (hr : ρ < 2) : ∀ (r k : Nat) (U0 : v_Sf), r + k = 12 → ∃ U, r_X12_laysAside_2 (z_i ρ) r k U0 = r_X12_laysAside_107 (z_i ρ) 5 0 U ∧ (∀ j, k ≤ j → j < 12 → U 137 (12 * ρ + j) = u_nar 2 (U0 116 j) ∧ U 138 (12 * ρ + j) = U0 117 j ∧ U 139 (12 * ρ + j) = U0 118 j ∧ U 140 (12 * ρ + j) = U0 119 j ∧ U 141 (12 * ρ + j) = U0 120 j ∧ U 142 (12 * ρ + j) = U0 121 j ∧ U 143 (12 * ρ + j) = U0 122 j) ∧ (∀ a j, ¬ (137 ≤ a ∧ a ≤ 143 ∧ 12 * ρ + k ≤ j ∧ j < 12 * ρ + 12) → U a j = U0 a j) := by
  intro r
  induction r with
  | zero =>
    intro k U0 hk
    exact ⟨U0, rfl, fun j h1 h2 => by omega, fun a j q => rfl⟩
  | succ r ih =>
    intro k U0 hk
    have ek : (z_i k).toInt.toNat = k := z_iin (by omega)
    have ex : ((Int32.ofInt 12) * (z_i ρ) + z_i k).toInt.toNat = 12 * ρ + k := z_ix (n := 12) (by omega)
    rw [r_X12_laysAside_2, ek, ex]
    obtain ⟨U, e, h1, h2⟩ := ih (k + 1) (z_s (z_s (z_s (z_s (z_s (z_s (z_s U0 137 (12 * ρ + k) (u_nar 2 (U0 116 k))) 138 (12 * ρ + k) (U0 117 k)) 139 (12 * ρ + k) (U0 118 k)) 140 (12 * ρ + k) (U0 119 k)) 141 (12 * ρ + k) (U0 120 k)) 142 (12 * ρ + k) (U0 121 k)) 143 (12 * ρ + k) (U0 122 k)) (by omega)
    refine ⟨U, e, fun j q1 q2 => ?_, fun a j q => ?_⟩
    · by_cases q : j = k
      · subst q
        refine ⟨?_, ?_, ?_, ?_, ?_, ?_, ?_⟩
        · rw [h2 _ _ (by omega), z_sn (by omega), z_sn (by omega), z_sn (by omega), z_sn (by omega), z_sn (by omega), z_sn (by omega), z_ss]
        · rw [h2 _ _ (by omega), z_sn (by omega), z_sn (by omega), z_sn (by omega), z_sn (by omega), z_sn (by omega), z_ss]
        · rw [h2 _ _ (by omega), z_sn (by omega), z_sn (by omega), z_sn (by omega), z_sn (by omega), z_ss]
        · rw [h2 _ _ (by omega), z_sn (by omega), z_sn (by omega), z_sn (by omega), z_ss]
        · rw [h2 _ _ (by omega), z_sn (by omega), z_sn (by omega), z_ss]
        · rw [h2 _ _ (by omega), z_sn (by omega), z_ss]
        · rw [h2 _ _ (by omega), z_ss]
      · obtain ⟨b0, b1, b2, b3, b4, b5, b6⟩ := h1 j (by omega) q2
        refine ⟨?_, ?_, ?_, ?_, ?_, ?_, ?_⟩
        · rw [b0, z_sn (by omega), z_sn (by omega), z_sn (by omega), z_sn (by omega), z_sn (by omega), z_sn (by omega), z_sn (by omega)]
        · rw [b1, z_sn (by omega), z_sn (by omega), z_sn (by omega), z_sn (by omega), z_sn (by omega), z_sn (by omega), z_sn (by omega)]
        · rw [b2, z_sn (by omega), z_sn (by omega), z_sn (by omega), z_sn (by omega), z_sn (by omega), z_sn (by omega), z_sn (by omega)]
        · rw [b3, z_sn (by omega), z_sn (by omega), z_sn (by omega), z_sn (by omega), z_sn (by omega), z_sn (by omega), z_sn (by omega)]
        · rw [b4, z_sn (by omega), z_sn (by omega), z_sn (by omega), z_sn (by omega), z_sn (by omega), z_sn (by omega), z_sn (by omega)]
        · rw [b5, z_sn (by omega), z_sn (by omega), z_sn (by omega), z_sn (by omega), z_sn (by omega), z_sn (by omega), z_sn (by omega)]
        · rw [b6, z_sn (by omega), z_sn (by omega), z_sn (by omega), z_sn (by omega), z_sn (by omega), z_sn (by omega), z_sn (by omega)]
    · rw [h2 a j (by omega), z_sn (by omega), z_sn (by omega), z_sn (by omega), z_sn (by omega), z_sn (by omega), z_sn (by omega), z_sn (by omega)]
theorem z_la2 {ρ : Nat} (hr : ρ < 2) : ∀ (r k : Nat) (U0 : v_Sf), r + k = 5 → ∃ U, r_X12_laysAside_107 (z_i ρ) r k U0 = r_X12_laysAside_168 (z_i ρ) 6 0 U ∧ (∀ j, k ≤ j → j < 5 → U 144 (5 * ρ + j) = u_nar 2 (U0 129 j) ∧ U 145 (5 * ρ + j) = U0 130 j ∧ U 146 (5 * ρ + j) = U0 131 j) ∧ (∀ a j, ¬ (144 ≤ a ∧ a ≤ 146 ∧ 5 * ρ + k ≤ j ∧ j < 5 * ρ + 5) → U a j = U0 a j) := by
  intro r
  induction r with
  | zero =>
    intro k U0 hk
    exact ⟨U0, rfl, fun j h1 h2 => by omega, fun a j q => rfl⟩
  | succ r ih =>
    intro k U0 hk
    have ek : (z_i k).toInt.toNat = k := z_iin (by omega)
    have ex : ((Int32.ofInt 5) * (z_i ρ) + z_i k).toInt.toNat = 5 * ρ + k := z_ix (n := 5) (by omega)
    rw [r_X12_laysAside_107, ek, ex]
    obtain ⟨U, e, h1, h2⟩ := ih (k + 1) (z_s (z_s (z_s U0 144 (5 * ρ + k) (u_nar 2 (U0 129 k))) 145 (5 * ρ + k) (U0 130 k)) 146 (5 * ρ + k) (U0 131 k)) (by omega)
    refine ⟨U, e, fun j q1 q2 => ?_, fun a j q => ?_⟩
    · by_cases q : j = k
      · subst q
        refine ⟨?_, ?_, ?_⟩
        · rw [h2 _ _ (by omega), z_sn (by omega), z_sn (by omega), z_ss]
        · rw [h2 _ _ (by omega), z_sn (by omega), z_ss]
        · rw [h2 _ _ (by omega), z_ss]
      · obtain ⟨b0, b1, b2⟩ := h1 j (by omega) q2
        refine ⟨?_, ?_, ?_⟩
        · rw [b0, z_sn (by omega), z_sn (by omega), z_sn (by omega)]
        · rw [b1, z_sn (by omega), z_sn (by omega), z_sn (by omega)]
        · rw [b2, z_sn (by omega), z_sn (by omega), z_sn (by omega)]
    · rw [h2 a j (by omega), z_sn (by omega), z_sn (by omega), z_sn (by omega)]
theorem z_la3 {ρ : Nat} (hr : ρ < 2) : ∀ (r k : Nat) (U0 : v_Sf), r + k = 6 → ∃ U, r_X12_laysAside_168 (z_i ρ) r k U0 = z_s (z_s (z_s (z_s U 148 ρ (U 99 60)) 149 ρ (U 99 61)) 150 ρ (U 99 62)) 151 ρ (U 99 2) ∧ (∀ j, k ≤ j → j < 6 → U 147 (6 * ρ + j) = U0 128 j) ∧ (∀ a j, ¬ (a = 147 ∧ 6 * ρ + k ≤ j ∧ j < 6 * ρ + 6) → U a j = U0 a j) := by
  intro r
  induction r with
  | zero =>
    intro k U0 hk
    refine ⟨U0, ?_, fun j h1 h2 => by omega, fun a j q => rfl⟩
    rw [r_X12_laysAside_168, z_iin (show ρ < 2147483648 by omega)]
  | succ r ih =>
    intro k U0 hk
    have ek : (z_i k).toInt.toNat = k := z_iin (by omega)
    have ex : ((Int32.ofInt 6) * (z_i ρ) + z_i k).toInt.toNat = 6 * ρ + k := z_ix (n := 6) (by omega)
    rw [r_X12_laysAside_168, ek, ex]
    obtain ⟨U, e, h1, h2⟩ := ih (k + 1) (z_s U0 147 (6 * ρ + k) (U0 128 k)) (by omega)
    refine ⟨U, e, fun j q1 q2 => ?_, fun a j q => ?_⟩
    · by_cases q : j = k
      · subst q
        rw [h2 _ _ (by omega), z_ss]
      · rw [h1 j (by omega) q2, z_sn (by omega)]
    · rw [h2 a j (by omega), z_sn (by omega)]
theorem z_bb1 {ρ : Nat} (hr : ρ < 2) : ∀ (r k : Nat) (U0 : v_Sf), r + k = 12 → ∃ U, r_X12_bringsBack_2 (z_i ρ) r k U0 = r_X12_bringsBack_107 (z_i ρ) 5 0 U ∧ (∀ j, k ≤ j → j < 12 → U 116 j = u_nar 2 (U0 137 (12 * ρ + j)) ∧ U 117 j = U0 138 (12 * ρ + j) ∧ U 118 j = U0 139 (12 * ρ + j) ∧ U 119 j = U0 140 (12 * ρ + j) ∧ U 120 j = U0 141 (12 * ρ + j) ∧ U 121 j = U0 142 (12 * ρ + j) ∧ U 122 j = U0 143 (12 * ρ + j)) ∧ (∀ a j, ¬ (116 ≤ a ∧ a ≤ 122 ∧ k ≤ j ∧ j < 12) → U a j = U0 a j) := by
  intro r
  induction r with
  | zero =>
    intro k U0 hk
    exact ⟨U0, rfl, fun j h1 h2 => by omega, fun a j q => rfl⟩
  | succ r ih =>
    intro k U0 hk
    have ek : (z_i k).toInt.toNat = k := z_iin (by omega)
    have ex : ((Int32.ofInt 12) * (z_i ρ) + z_i k).toInt.toNat = 12 * ρ + k := z_ix (n := 12) (by omega)
    rw [r_X12_bringsBack_2, ek, ex]
    obtain ⟨U, e, h1, h2⟩ := ih (k + 1) (z_s (z_s (z_s (z_s (z_s (z_s (z_s U0 116 k (u_nar 2 (U0 137 (12 * ρ + k)))) 117 k (U0 138 (12 * ρ + k))) 118 k (U0 139 (12 * ρ + k))) 119 k (U0 140 (12 * ρ + k))) 120 k (U0 141 (12 * ρ + k))) 121 k (U0 142 (12 * ρ + k))) 122 k (U0 143 (12 * ρ + k))) (by omega)
    refine ⟨U, e, fun j q1 q2 => ?_, fun a j q => ?_⟩
    · by_cases q : j = k
      · subst q
        refine ⟨?_, ?_, ?_, ?_, ?_, ?_, ?_⟩
        · rw [h2 _ _ (by omega), z_sn (by omega), z_sn (by omega), z_sn (by omega), z_sn (by omega), z_sn (by omega), z_sn (by omega), z_ss]
        · rw [h2 _ _ (by omega), z_sn (by omega), z_sn (by omega), z_sn (by omega), z_sn (by omega), z_sn (by omega), z_ss]
        · rw [h2 _ _ (by omega), z_sn (by omega), z_sn (by omega), z_sn (by omega), z_sn (by omega), z_ss]
        · rw [h2 _ _ (by omega), z_sn (by omega), z_sn (by omega), z_sn (by omega), z_ss]
        · rw [h2 _ _ (by omega), z_sn (by omega), z_sn (by omega), z_ss]
        · rw [h2 _ _ (by omega), z_sn (by omega), z_ss]
        · rw [h2 _ _ (by omega), z_ss]
      · obtain ⟨b0, b1, b2, b3, b4, b5, b6⟩ := h1 j (by omega) q2
        refine ⟨?_, ?_, ?_, ?_, ?_, ?_, ?_⟩
        · rw [b0, z_sn (by omega), z_sn (by omega), z_sn (by omega), z_sn (by omega), z_sn (by omega), z_sn (by omega), z_sn (by omega)]
        · rw [b1, z_sn (by omega), z_sn (by omega), z_sn (by omega), z_sn (by omega), z_sn (by omega), z_sn (by omega), z_sn (by omega)]
        · rw [b2, z_sn (by omega), z_sn (by omega), z_sn (by omega), z_sn (by omega), z_sn (by omega), z_sn (by omega), z_sn (by omega)]
        · rw [b3, z_sn (by omega), z_sn (by omega), z_sn (by omega), z_sn (by omega), z_sn (by omega), z_sn (by omega), z_sn (by omega)]
        · rw [b4, z_sn (by omega), z_sn (by omega), z_sn (by omega), z_sn (by omega), z_sn (by omega), z_sn (by omega), z_sn (by omega)]
        · rw [b5, z_sn (by omega), z_sn (by omega), z_sn (by omega), z_sn (by omega), z_sn (by omega), z_sn (by omega), z_sn (by omega)]
        · rw [b6, z_sn (by omega), z_sn (by omega), z_sn (by omega), z_sn (by omega), z_sn (by omega), z_sn (by omega), z_sn (by omega)]
    · rw [h2 a j (by omega), z_sn (by omega), z_sn (by omega), z_sn (by omega), z_sn (by omega), z_sn (by omega), z_sn (by omega), z_sn (by omega)]
theorem z_bb2 {ρ : Nat} (hr : ρ < 2) : ∀ (r k : Nat) (U0 : v_Sf), r + k = 5 → ∃ U, r_X12_bringsBack_107 (z_i ρ) r k U0 = r_X12_bringsBack_168 (z_i ρ) 6 0 U ∧ (∀ j, k ≤ j → j < 5 → U 129 j = u_nar 2 (U0 144 (5 * ρ + j)) ∧ U 130 j = U0 145 (5 * ρ + j) ∧ U 131 j = U0 146 (5 * ρ + j)) ∧ (∀ a j, ¬ (129 ≤ a ∧ a ≤ 131 ∧ k ≤ j ∧ j < 5) → U a j = U0 a j) := by
  intro r
  induction r with
  | zero =>
    intro k U0 hk
    exact ⟨U0, rfl, fun j h1 h2 => by omega, fun a j q => rfl⟩
  | succ r ih =>
    intro k U0 hk
    have ek : (z_i k).toInt.toNat = k := z_iin (by omega)
    have ex : ((Int32.ofInt 5) * (z_i ρ) + z_i k).toInt.toNat = 5 * ρ + k := z_ix (n := 5) (by omega)
    rw [r_X12_bringsBack_107, ek, ex]
    obtain ⟨U, e, h1, h2⟩ := ih (k + 1) (z_s (z_s (z_s U0 129 k (u_nar 2 (U0 144 (5 * ρ + k)))) 130 k (U0 145 (5 * ρ + k))) 131 k (U0 146 (5 * ρ + k))) (by omega)
    refine ⟨U, e, fun j q1 q2 => ?_, fun a j q => ?_⟩
    · by_cases q : j = k
      · subst q
        refine ⟨?_, ?_, ?_⟩
        · rw [h2 _ _ (by omega), z_sn (by omega), z_sn (by omega), z_ss]
        · rw [h2 _ _ (by omega), z_sn (by omega), z_ss]
        · rw [h2 _ _ (by omega), z_ss]
      · obtain ⟨b0, b1, b2⟩ := h1 j (by omega) q2
        refine ⟨?_, ?_, ?_⟩
        · rw [b0, z_sn (by omega), z_sn (by omega), z_sn (by omega)]
        · rw [b1, z_sn (by omega), z_sn (by omega), z_sn (by omega)]
        · rw [b2, z_sn (by omega), z_sn (by omega), z_sn (by omega)]
    · rw [h2 a j (by omega), z_sn (by omega), z_sn (by omega), z_sn (by omega)]
theorem z_bb3 {ρ : Nat} (hr : ρ < 2) : ∀ (r k : Nat) (U0 : v_Sf), r + k = 6 → ∃ U, r_X12_bringsBack_168 (z_i ρ) r k U0 = z_s (z_s (z_s (z_s U 99 60 (U 148 ρ)) 99 61 (U 149 ρ)) 99 62 (U 150 ρ)) 99 2 (U 151 ρ) ∧ (∀ j, k ≤ j → j < 6 → U 128 j = if U0 127 j ≤ U0 147 (6 * ρ + j) then Int32.ofInt 0 else U0 147 (6 * ρ + j)) ∧ (∀ a j, ¬ (a = 128 ∧ k ≤ j ∧ j < 6) → U a j = U0 a j) := by
  intro r
  induction r with
  | zero =>
    intro k U0 hk
    refine ⟨U0, ?_, fun j h1 h2 => by omega, fun a j q => rfl⟩
    rw [r_X12_bringsBack_168, z_iin (show ρ < 2147483648 by omega)]
  | succ r ih =>
    intro k U0 hk
    have ek : (z_i k).toInt.toNat = k := z_iin (by omega)
    have ex : ((Int32.ofInt 6) * (z_i ρ) + z_i k).toInt.toNat = 6 * ρ + k := z_ix (n := 6) (by omega)
    rw [r_X12_bringsBack_168, ek, ex]
    have key : ∀ v, (v = if U0 127 k ≤ U0 147 (6 * ρ + k) then Int32.ofInt 0 else U0 147 (6 * ρ + k)) → ∃ U, r_X12_bringsBack_168 (z_i ρ) r (k + 1) (z_s U0 128 k v) = z_s (z_s (z_s (z_s U 99 60 (U 148 ρ)) 99 61 (U 149 ρ)) 99 62 (U 150 ρ)) 99 2 (U 151 ρ) ∧ (∀ j, k ≤ j → j < 6 → U 128 j = if U0 127 j ≤ U0 147 (6 * ρ + j) then Int32.ofInt 0 else U0 147 (6 * ρ + j)) ∧ (∀ a j, ¬ (a = 128 ∧ k ≤ j ∧ j < 6) → U a j = U0 a j) := by
      intro v hv
      obtain ⟨U, e, h1, h2⟩ := ih (k + 1) (z_s U0 128 k v) (by omega)
      refine ⟨U, e, fun j q1 q2 => ?_, fun a j q => ?_⟩
      · by_cases q : j = k
        · subst q
          rw [h2 _ _ (by omega), z_ss, hv]
        · rw [h1 j (by omega) q2, z_sr (by decide), z_sr (by decide)]
      · rw [h2 a j (by omega), z_sn (by omega)]
    by_cases q : U0 127 k ≤ U0 147 (6 * ρ + k)
    · rw [if_pos q]
      exact key _ (by rw [if_pos q])
    · rw [if_neg q]
      exact key _ (by rw [if_neg q])
theorem z_la {ρ : Nat} (hr : ρ < 2) (T : v_Sf) : ∃ X, g_X12_laysAside (z_i ρ) T = X ∧ (∀ j, j < 12 → X 137 (12 * ρ + j) = u_nar 2 (T 116 j) ∧ X 138 (12 * ρ + j) = T 117 j ∧ X 139 (12 * ρ + j) = T 118 j ∧ X 140 (12 * ρ + j) = T 119 j ∧ X 141 (12 * ρ + j) = T 120 j ∧ X 142 (12 * ρ + j) = T 121 j ∧ X 143 (12 * ρ + j) = T 122 j) ∧ (∀ j, j < 5 → X 144 (5 * ρ + j) = u_nar 2 (T 129 j) ∧ X 145 (5 * ρ + j) = T 130 j ∧ X 146 (5 * ρ + j) = T 131 j) ∧ (∀ j, j < 6 → X 147 (6 * ρ + j) = T 128 j) ∧ (X 148 ρ = T 99 60 ∧ X 149 ρ = T 99 61 ∧ X 150 ρ = T 99 62 ∧ X 151 ρ = T 99 2) ∧ (∀ a j, ¬ (137 ≤ a ∧ a ≤ 143 ∧ 12 * ρ ≤ j ∧ j < 12 * ρ + 12 ∨ 144 ≤ a ∧ a ≤ 146 ∧ 5 * ρ ≤ j ∧ j < 5 * ρ + 5 ∨ a = 147 ∧ 6 * ρ ≤ j ∧ j < 6 * ρ + 6 ∨ 148 ≤ a ∧ a ≤ 151 ∧ j = ρ) → X a j = T a j) := by
  obtain ⟨U1, e1, a1, b1⟩ := z_la1 hr 12 0 T (by omega)
  obtain ⟨U2, e2, a2, b2⟩ := z_la2 hr 5 0 U1 (by omega)
  obtain ⟨U3, e3, a3, b3⟩ := z_la3 hr 6 0 U2 (by omega)
  refine ⟨_, rfl, ?_⟩
  unfold g_X12_laysAside F_X12_laysAside
  rw [show 12 - 0 = 12 from rfl, e1, e2, e3]
  refine ⟨fun j hj => ?_, fun j hj => ?_, fun j hj => ?_, ⟨?_, ?_, ?_, ?_⟩, fun a j q => ?_⟩
  · obtain ⟨c0, c1, c2, c3, c4, c5, c6⟩ := a1 j (by omega) hj
    refine ⟨?_, ?_, ?_, ?_, ?_, ?_, ?_⟩
    · rw [z_sn (by omega), z_sn (by omega), z_sn (by omega), z_sn (by omega), b3 _ _ (by omega), b2 _ _ (by omega), c0]
    · rw [z_sn (by omega), z_sn (by omega), z_sn (by omega), z_sn (by omega), b3 _ _ (by omega), b2 _ _ (by omega), c1]
    · rw [z_sn (by omega), z_sn (by omega), z_sn (by omega), z_sn (by omega), b3 _ _ (by omega), b2 _ _ (by omega), c2]
    · rw [z_sn (by omega), z_sn (by omega), z_sn (by omega), z_sn (by omega), b3 _ _ (by omega), b2 _ _ (by omega), c3]
    · rw [z_sn (by omega), z_sn (by omega), z_sn (by omega), z_sn (by omega), b3 _ _ (by omega), b2 _ _ (by omega), c4]
    · rw [z_sn (by omega), z_sn (by omega), z_sn (by omega), z_sn (by omega), b3 _ _ (by omega), b2 _ _ (by omega), c5]
    · rw [z_sn (by omega), z_sn (by omega), z_sn (by omega), z_sn (by omega), b3 _ _ (by omega), b2 _ _ (by omega), c6]
  · obtain ⟨c0, c1, c2⟩ := a2 j (by omega) hj
    refine ⟨?_, ?_, ?_⟩
    · rw [z_sn (by omega), z_sn (by omega), z_sn (by omega), z_sn (by omega), b3 _ _ (by omega), c0, b1 _ _ (by omega)]
    · rw [z_sn (by omega), z_sn (by omega), z_sn (by omega), z_sn (by omega), b3 _ _ (by omega), c1, b1 _ _ (by omega)]
    · rw [z_sn (by omega), z_sn (by omega), z_sn (by omega), z_sn (by omega), b3 _ _ (by omega), c2, b1 _ _ (by omega)]
  · rw [z_sn (by omega), z_sn (by omega), z_sn (by omega), z_sn (by omega), a3 j (by omega) hj, b2 _ _ (by omega), b1 _ _ (by omega)]
  · rw [z_sn (by omega), z_sn (by omega), z_sn (by omega), z_ss, b3 _ _ (by omega), b2 _ _ (by omega), b1 _ _ (by omega)]
  · rw [z_sn (by omega), z_sn (by omega), z_ss, b3 _ _ (by omega), b2 _ _ (by omega), b1 _ _ (by omega)]
  · rw [z_sn (by omega), z_ss, b3 _ _ (by omega), b2 _ _ (by omega), b1 _ _ (by omega)]
  · rw [z_ss, b3 _ _ (by omega), b2 _ _ (by omega), b1 _ _ (by omega)]
  · rw [z_sn (by omega), z_sn (by omega), z_sn (by omega), z_sn (by omega), b3 _ _ (by omega), b2 _ _ (by omega), b1 _ _ (by omega)]
theorem z_bb {ρ : Nat} (hr : ρ < 2) (T : v_Sf) : ∃ X, g_X12_bringsBack (z_i ρ) T = X ∧ (∀ j, j < 12 → X 116 j = u_nar 2 (T 137 (12 * ρ + j)) ∧ X 117 j = T 138 (12 * ρ + j) ∧ X 118 j = T 139 (12 * ρ + j) ∧ X 119 j = T 140 (12 * ρ + j) ∧ X 120 j = T 141 (12 * ρ + j) ∧ X 121 j = T 142 (12 * ρ + j) ∧ X 122 j = T 143 (12 * ρ + j)) ∧ (∀ j, j < 5 → X 129 j = u_nar 2 (T 144 (5 * ρ + j)) ∧ X 130 j = T 145 (5 * ρ + j) ∧ X 131 j = T 146 (5 * ρ + j)) ∧ (∀ j, j < 6 → X 128 j = if T 127 j ≤ T 147 (6 * ρ + j) then Int32.ofInt 0 else T 147 (6 * ρ + j)) ∧ (X 99 60 = T 148 ρ ∧ X 99 61 = T 149 ρ ∧ X 99 62 = T 150 ρ ∧ X 99 2 = T 151 ρ) ∧ (∀ a j, ¬ (116 ≤ a ∧ a ≤ 122 ∧ j < 12 ∨ 129 ≤ a ∧ a ≤ 131 ∧ j < 5 ∨ a = 128 ∧ j < 6 ∨ a = 99 ∧ (j = 2 ∨ 60 ≤ j ∧ j ≤ 62)) → X a j = T a j) := by
  obtain ⟨U1, e1, a1, b1⟩ := z_bb1 hr 12 0 T (by omega)
  obtain ⟨U2, e2, a2, b2⟩ := z_bb2 hr 5 0 U1 (by omega)
  obtain ⟨U3, e3, a3, b3⟩ := z_bb3 hr 6 0 U2 (by omega)
  refine ⟨_, rfl, ?_⟩
  unfold g_X12_bringsBack F_X12_bringsBack
  rw [show 12 - 0 = 12 from rfl, e1, e2, e3]
  refine ⟨fun j hj => ?_, fun j hj => ?_, fun j hj => ?_, ⟨?_, ?_, ?_, ?_⟩, fun a j q => ?_⟩
  · obtain ⟨c0, c1, c2, c3, c4, c5, c6⟩ := a1 j (by omega) hj
    refine ⟨?_, ?_, ?_, ?_, ?_, ?_, ?_⟩
    · rw [z_sn (by omega), z_sn (by omega), z_sn (by omega), z_sn (by omega), b3 _ _ (by omega), b2 _ _ (by omega), c0]
    · rw [z_sn (by omega), z_sn (by omega), z_sn (by omega), z_sn (by omega), b3 _ _ (by omega), b2 _ _ (by omega), c1]
    · rw [z_sn (by omega), z_sn (by omega), z_sn (by omega), z_sn (by omega), b3 _ _ (by omega), b2 _ _ (by omega), c2]
    · rw [z_sn (by omega), z_sn (by omega), z_sn (by omega), z_sn (by omega), b3 _ _ (by omega), b2 _ _ (by omega), c3]
    · rw [z_sn (by omega), z_sn (by omega), z_sn (by omega), z_sn (by omega), b3 _ _ (by omega), b2 _ _ (by omega), c4]
    · rw [z_sn (by omega), z_sn (by omega), z_sn (by omega), z_sn (by omega), b3 _ _ (by omega), b2 _ _ (by omega), c5]
    · rw [z_sn (by omega), z_sn (by omega), z_sn (by omega), z_sn (by omega), b3 _ _ (by omega), b2 _ _ (by omega), c6]
  · obtain ⟨c0, c1, c2⟩ := a2 j (by omega) hj
    refine ⟨?_, ?_, ?_⟩
    · rw [z_sn (by omega), z_sn (by omega), z_sn (by omega), z_sn (by omega), b3 _ _ (by omega), c0, b1 _ _ (by omega)]
    · rw [z_sn (by omega), z_sn (by omega), z_sn (by omega), z_sn (by omega), b3 _ _ (by omega), c1, b1 _ _ (by omega)]
    · rw [z_sn (by omega), z_sn (by omega), z_sn (by omega), z_sn (by omega), b3 _ _ (by omega), c2, b1 _ _ (by omega)]
  · rw [z_sn (by omega), z_sn (by omega), z_sn (by omega), z_sn (by omega), a3 j (by omega) hj, b2 127 _ (by omega), b2 147 _ (by omega), b1 127 _ (by omega), b1 147 _ (by omega)]
  · rw [z_sn (by omega), z_sn (by omega), z_sn (by omega), z_ss, b3 _ _ (by omega), b2 _ _ (by omega), b1 _ _ (by omega)]
  · rw [z_sn (by omega), z_sn (by omega), z_ss, b3 _ _ (by omega), b2 _ _ (by omega), b1 _ _ (by omega)]
  · rw [z_sn (by omega), z_ss, b3 _ _ (by omega), b2 _ _ (by omega), b1 _ _ (by omega)]
  · rw [z_ss, b3 _ _ (by omega), b2 _ _ (by omega), b1 _ _ (by omega)]
  · rw [z_sn (by omega), z_sn (by omega), z_sn (by omega), z_sn (by omega), b3 _ _ (by omega), b2 _ _ (by omega), b1 _ _ (by omega)]
