/-! nursed: the answers -/
theorem z_spr77 {X : Nat} (h8 : z_cn X 12 ≤ 8) : ∀ (r k : Nat) (U : v_Sf), k + r = 12 → ∃ W, r_spread77_4 (z_i X) r k (z_i (z_cn X k)) U = (z_i (z_cn X 12), W) ∧ (∀ i, i < z_cn X k → W 77 i = U 77 i) ∧ (∀ j, k ≤ j → j < 12 → X.testBit j = true → W 77 (z_cn X j) = z_i j) ∧ (∀ a j, a ≠ 77 → W a j = U a j) := by
  intro r
  induction r with
  | zero =>
    intro k U hk
    obtain rfl : k = 12 := by omega
    exact ⟨U, by rw [r_spread77_4], fun i _ => rfl, fun j h1 h2 => by omega, fun a j _ => rfl⟩
  | succ r ih =>
    intro k U hk
    have hm := z_cn_le X (12 - k) k
    rw [show k + (12 - k) = 12 by omega] at hm
    have hc1 : z_cn X (k + 1) = z_cn X k + (if X.testBit k then 1 else 0) := rfl
    rw [r_spread77_4]
    by_cases q : z_cn X k = 8
    · rw [if_pos (by rw [q]; decide)]
      refine ⟨U, by rw [show z_cn X k = z_cn X 12 by omega], fun i _ => rfl, fun j h1 h2 h3 => ?_, fun a j _ => rfl⟩
      have := z_cn_lt h2 h3
      have := z_cn_le X (j - k) k
      rw [show k + (j - k) = j by omega] at this
      omega
    · rw [if_neg (by rw [show Int32.ofNat 8 = z_i 8 by decide, z_ile (by omega) (by omega)]; omega)]
      have hI := z_isInN (X := X) (g := k) (by omega)
      by_cases t : X.testBit k = true
      · rw [if_pos t] at hc1
        rw [if_neg (fun m => by rw [hI.mp m] at t; cases t), z_iin (show z_cn X k < 2147483648 by omega), show z_i (z_cn X k) + Int32.ofInt 1 = z_i (z_cn X (k + 1)) by rw [hc1]; exact z_i1 _]
        obtain ⟨W, w1, w2, w3, w4⟩ := ih (k + 1) (z_s U 77 (z_cn X k) (z_i k)) (by omega)
        refine ⟨W, w1, fun i hi => ?_, fun j h1 h2 h3 => ?_, fun a j h1 => ?_⟩
        · rw [w2 i (by omega), z_sn (by omega)]
        · by_cases e : j = k
          · rw [e, w2 _ (by omega), z_ss]
          · exact w3 j (by omega) h2 h3
        · rw [w4 a j h1, z_sn (by omega)]
      · have t2 : X.testBit k = false := by simpa using t
        rw [if_neg t] at hc1
        rw [if_pos (hI.mpr t2), show z_cn X k = z_cn X (k + 1) by omega]
        obtain ⟨W, w1, w2, w3, w4⟩ := ih (k + 1) U (by omega)
        refine ⟨W, w1, w2, fun j h1 h2 h3 => ?_, w4⟩
        by_cases e : j = k
        · rw [e] at h3
          exact absurd h3 t
        · exact w3 j (by omega) h2 h3
theorem z_spr78 {X : Nat} (h8 : z_cn X 12 ≤ 8) : ∀ (r k : Nat) (U : v_Sf), k + r = 12 → ∃ W, r_spread78_4 (z_i X) r k (z_i (z_cn X k)) U = (z_i (z_cn X 12), W) ∧ (∀ i, i < z_cn X k → W 78 i = U 78 i) ∧ (∀ j, k ≤ j → j < 12 → X.testBit j = true → W 78 (z_cn X j) = z_i j) ∧ (∀ a j, a ≠ 78 → W a j = U a j) := by
  intro r
  induction r with
  | zero =>
    intro k U hk
    obtain rfl : k = 12 := by omega
    exact ⟨U, by rw [r_spread78_4], fun i _ => rfl, fun j h1 h2 => by omega, fun a j _ => rfl⟩
  | succ r ih =>
    intro k U hk
    have hm := z_cn_le X (12 - k) k
    rw [show k + (12 - k) = 12 by omega] at hm
    have hc1 : z_cn X (k + 1) = z_cn X k + (if X.testBit k then 1 else 0) := rfl
    rw [r_spread78_4]
    by_cases q : z_cn X k = 8
    · rw [if_pos (by rw [q]; decide)]
      refine ⟨U, by rw [show z_cn X k = z_cn X 12 by omega], fun i _ => rfl, fun j h1 h2 h3 => ?_, fun a j _ => rfl⟩
      have := z_cn_lt h2 h3
      have := z_cn_le X (j - k) k
      rw [show k + (j - k) = j by omega] at this
      omega
    · rw [if_neg (by rw [show Int32.ofNat 8 = z_i 8 by decide, z_ile (by omega) (by omega)]; omega)]
      have hI := z_isInN (X := X) (g := k) (by omega)
      by_cases t : X.testBit k = true
      · rw [if_pos t] at hc1
        rw [if_neg (fun m => by rw [hI.mp m] at t; cases t), z_iin (show z_cn X k < 2147483648 by omega), show z_i (z_cn X k) + Int32.ofInt 1 = z_i (z_cn X (k + 1)) by rw [hc1]; exact z_i1 _]
        obtain ⟨W, w1, w2, w3, w4⟩ := ih (k + 1) (z_s U 78 (z_cn X k) (z_i k)) (by omega)
        refine ⟨W, w1, fun i hi => ?_, fun j h1 h2 h3 => ?_, fun a j h1 => ?_⟩
        · rw [w2 i (by omega), z_sn (by omega)]
        · by_cases e : j = k
          · rw [e, w2 _ (by omega), z_ss]
          · exact w3 j (by omega) h2 h3
        · rw [w4 a j h1, z_sn (by omega)]
      · have t2 : X.testBit k = false := by simpa using t
        rw [if_neg t] at hc1
        rw [if_pos (hI.mpr t2), show z_cn X k = z_cn X (k + 1) by omega]
        obtain ⟨W, w1, w2, w3, w4⟩ := ih (k + 1) U (by omega)
        refine ⟨W, w1, w2, fun j h1 h2 h3 => ?_, w4⟩
        by_cases e : j = k
        · rw [e] at h3
          exact absurd h3 t
        · exact w3 j (by omega) h2 h3
theorem z_cnk (X : Nat) : ∀ k, z_cn X k ≤ k := by
  intro k
  induction k with
  | zero => exact Nat.le_refl 0
  | succ k ih =>
    rw [z_cn]
    split <;> omega
theorem z_cn6 (X : Nat) : z_cn X 6 ≤ 6 := z_cnk X 6
theorem z_cn_hi {X m : Nat} (h : X < 2 ^ m) : ∀ d, z_cn X (m + d) = z_cn X m := by
  intro d
  induction d with
  | zero => rfl
  | succ d ih =>
    rw [← Nat.add_assoc, z_cn, ih, Nat.testBit_lt_two_pow (Nat.lt_of_lt_of_le h (Nat.pow_le_pow_right (by decide) (by omega)))]
    simp
theorem z_tkp {X : Nat} : ∀ (r k : Nat) (U : v_Sf), k + r = 6 → ∃ W, r_X12_takesPlaces_4 (z_i X) r k (z_i (z_cn X k)) U = (z_i (z_cn X 6), W) ∧ (∀ i, i < z_cn X k → W 153 i = U 153 i) ∧ (∀ j, k ≤ j → j < 6 → X.testBit j = true → W 153 (z_cn X j) = z_i j) ∧ (∀ a j, a ≠ 153 → W a j = U a j) := by
  have hc := z_cn6 X
  intro r
  induction r with
  | zero =>
    intro k U hk
    obtain rfl : k = 6 := by omega
    exact ⟨U, by rw [r_X12_takesPlaces_4], fun i _ => rfl, fun j h1 h2 => by omega, fun a j _ => rfl⟩
  | succ r ih =>
    intro k U hk
    have hm := z_cn_le X (6 - k) k
    rw [show k + (6 - k) = 6 by omega] at hm
    have hc1 : z_cn X (k + 1) = z_cn X k + (if X.testBit k then 1 else 0) := rfl
    have hI := z_hasN0 (X := X) (g := k) (by omega)
    rw [r_X12_takesPlaces_4]
    by_cases t : X.testBit k = true
    · rw [if_pos t] at hc1
      rw [if_pos (fun m => by rw [hI.mp m] at t; cases t), z_iin (show z_cn X k < 2147483648 by omega), show z_i (z_cn X k) + Int32.ofInt 1 = z_i (z_cn X (k + 1)) by rw [hc1]; exact z_i1 _]
      obtain ⟨W, w1, w2, w3, w4⟩ := ih (k + 1) (z_s U 153 (z_cn X k) (z_i k)) (by omega)
      refine ⟨W, w1, fun i hi => ?_, fun j h1 h2 h3 => ?_, fun a j h1 => ?_⟩
      · rw [w2 i (by omega), z_sn (by omega)]
      · by_cases e : j = k
        · rw [e, w2 _ (by omega), z_ss]
        · exact w3 j (by omega) h2 h3
      · rw [w4 a j h1, z_sn (by omega)]
    · have t2 : X.testBit k = false := by simpa using t
      rw [if_neg t] at hc1
      rw [if_neg (not_not_intro (hI.mpr t2)), show z_cn X k = z_cn X (k + 1) by omega]
      obtain ⟨W, w1, w2, w3, w4⟩ := ih (k + 1) U (by omega)
      refine ⟨W, w1, w2, fun j h1 h2 h3 => ?_, w4⟩
      by_cases e : j = k
      · rw [e] at h3
        exact absurd h3 t
      · exact w3 j (by omega) h2 h3
theorem z_opnK {K : Nat} (hK : 1 ≤ K ∧ K ≤ 6) : ∀ (r m : Nat) (S : v_Sf), r ≤ 6 → m < 1000000 → ∃ W, r_X12_opensRow_8 (z_i K) r (z_i m) (Int32.ofInt ((r : Int) - 1)) S = W ∧ (∀ j, j < r → W 154 j = z_i (m / K ^ (r - 1 - j) % K)) ∧ (∀ a j, ¬ (a = 154 ∧ j < r) → W a j = S a j) := by
  intro r
  induction r with
  | zero =>
    intro m S _ _
    exact ⟨S, rfl, fun j hj => by omega, fun a j _ => rfl⟩
  | succ r ih =>
    intro m S hr hm
    have e1 : Int32.ofInt (((r + 1 : Nat) : Int) - 1) = z_i r := by
      unfold z_i
      congr 1
      omega
    have e2 : z_i r + Int32.ofInt (-1) = Int32.ofInt ((r : Int) - 1) := by
      unfold z_i
      rw [z_oia]
      rfl
    have er : (z_i r).toInt.toNat = r := z_iin (by omega)
    have e3 : z_i m / z_i K = z_i (m / K) := z_idiv (by omega) (by omega)
    have e4 : z_i m - z_i (m / K) * z_i K = z_i (m % K) := by
      rw [z_imul]
      have h := Nat.div_add_mod m K
      rw [Nat.mul_comm] at h
      generalize m / K * K = Z at h ⊢
      unfold z_i
      rw [z_ois]
      congr 1
      omega
    have hle := Nat.div_le_self m K
    rw [r_X12_opensRow_8, e1, e2, e3, e4, er]
    obtain ⟨W, w1, w2, w3⟩ := ih (m / K) (z_s S 154 r (z_i (m % K))) (by omega) (by omega)
    refine ⟨W, w1, fun j hj => ?_, fun a j q => ?_⟩
    · by_cases q : j = r
      · subst q
        rw [w3 _ _ (by omega), z_ss, show j + 1 - 1 - j = 0 by omega, Nat.pow_zero, Nat.div_one]
      · rw [w2 j (by omega), show r + 1 - 1 - j = (r - 1 - j) + 1 by omega, Nat.pow_succ, Nat.mul_comm _ K, ← Nat.div_div_eq_div_mul]
    · rw [w3 a j (by omega), z_sn (by omega)]
/-! the class's search -/
section ST
variable {n : Nat} {cst : Nat → Nat → Int} {S : v_Sf}
end ST
/-! some row is found -/
