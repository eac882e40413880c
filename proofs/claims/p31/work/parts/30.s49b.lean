/-! nursed: the answers -/
theorem z_spr77 {X : Nat} (h8 : z_cn X 12 ≤ 8) : ∀ (r k : Nat) (U : v_Sf), k + r = 12 → ∃ W, r_spread77_4 (z_i X) r k (z_i (z_cn X k)) U = (z_i (z_cn X 12), W) ∧ (∀ i, i < z_cn X k → W 77 i = U 77 i) ∧ (∀ j, k ≤ j → j < 12 → X.testBit j = true → W 77 (z_cn X j) = z_i j) ∧ (∀ a j, a ≠ 77 → W a j = U a j) := by
  intro r
  induction r with
  | zero =>
    intro k U hk
    obtain rfl : k = 12 := by omega
    exact ⟨U, by rw [r_spread77_4], fun i _ => rfl, fun j h1 h2 => by omega, fun a j _ => rfl⟩
  | succ r ih =>
    intro k U hk
    have hm := z_cn_le X (12 - k) k
    rw [show k + (12 - k) = 12 by omega] at hm
    have hc1 : z_cn X (k + 1) = z_cn X k + (if X.testBit k then 1 else 0) := rfl
    rw [r_spread77_4]
    by_cases q : z_cn X k = 8
    · rw [if_pos (by rw [q]; decide)]
      refine ⟨U, by rw [show z_cn X k = z_cn X 12 by omega], fun i _ => rfl, fun j h1 h2 h3 => ?_, fun a j _ => rfl⟩
      have := z_cn_lt h2 h3
      have := z_cn_le X (j - k) k
      rw [show k + (j - k) = j by omega] at this
      omega
    · rw [if_neg (by rw [show Int32.ofNat 8 = z_i 8 by decide, z_ile (by omega) (by omega)]; omega)]
      have hI := z_isInN (X := X) (g := k) (by omega)
      by_cases t : X.testBit k = true
      · rw [if_pos t] at hc1
        rw [if_neg (fun m => by rw [hI.mp m] at t; cases t), z_iin (show z_cn X k < 2147483648 by omega), show z_i (z_cn X k) + Int32.ofInt 1 = z_i (z_cn X (k + 1)) by rw [hc1]; exact z_i1 _]
        obtain ⟨W, w1, w2, w3, w4⟩ := ih (k + 1) (z_s U 77 (z_cn X k) (z_i k)) (by omega)
        refine ⟨W, w1, fun i hi => ?_, fun j h1 h2 h3 => ?_, fun a j h1 => ?_⟩
        · rw [w2 i (by omega), z_sn (by omega)]
        · by_cases e : j = k
          · rw [e, w2 _ (by omega), z_ss]
          · exact w3 j (by omega) h2 h3
        · rw [w4 a j h1, z_sn (by omega)]
      · have t2 : X.testBit k = false := by simpa using t
        rw [if_neg t] at hc1
        rw [if_pos (hI.mpr t2), show z_cn X k = z_cn X (k + 1) by omega]
        obtain ⟨W, w1, w2, w3, w4⟩ := ih (k + 1) U (by omega)
        refine ⟨W, w1, w2, fun j h1 h2 h3 => ?_, w4⟩
        by_cases e : j = k
        · rw [e] at h3
          exact absurd h3 t
        · exact w3 j (by omega) h2 h3
/-! the class's search -/
section ST
variable {n : Nat} {cst : Nat → Nat → Int} {S : v_Sf}
end ST
/-! some row is found -/
