/-! escaped: the reference's words -/
theorem z_bs7 (U : v_Sf) (a : Nat) (x j : Int32) : f_X12_byteAt j (z_s U 167 a x) = f_X12_byteAt j U := by
  unfold f_X12_byteAt
  rw [z_sn (by omega)]
theorem z_bs9 (U : v_Sf) (a : Nat) (x j : Int32) : f_X12_byteAt j (z_s U 169 a x) = f_X12_byteAt j U := by
  unfold f_X12_byteAt
  rw [z_sn (by omega)]
theorem z_vd (v a b : Nat) : z_i v * (z_i a - z_i b) = Int32.ofInt (((v * a : Nat) : Int) - ((v * b : Nat) : Int)) := by
  have e : z_i a - z_i b = Int32.ofInt ((a : Int) - b) := z_ois a b
  rw [e]
  refine (z_oim v ((a : Int) - b)).trans (congrArg Int32.ofInt ?_)
  rw [Int.mul_sub, Int.natCast_mul, Int.natCast_mul]
noncomputable def z_In (u lo hi : Nat → Int) (r1 r2 a e i : Nat) (U : v_Sf) : Prop := ∃ A H : Int, U r1 i = Int32.ofInt A ∧ U r2 i = Int32.ofInt H ∧ z_Lw u lo a e i A ∧ z_Lw u (fun i => -hi i) a e i (-H)
noncomputable def z_rch (u lo hi : Nat → Int) (k : Nat) : Prop := ∀ i j, i ≤ k → j ≤ k → lo i - hi j ≤ z_ab (u i - u k) + z_ab (u j - u k)
section EM
variable {n v : Nat} {β : Nat → Nat}
theorem z_eub (hv : v ≤ 99) (hb : ∀ j, β j ≤ 255) (i : Nat) : 0 ≤ z_eu β v i ∧ z_eu β v i ≤ 25245 := by
  have := Nat.mul_le_mul hv (hb (3 * i))
  unfold z_eu
  omega
theorem z_In_r (hb : ∀ j, β j ≤ 255) {u : Nat → Int} {r1 r2 a e i : Nat} {U : v_Sf} (h : z_In u (z_el β) (z_eh β) r1 r2 a e i U) (h1 : a ≤ i) (h2 : i ≤ e) : ∃ A H : Int, U r1 i = Int32.ofInt A ∧ U r2 i = Int32.ofInt H ∧ z_Lw u (z_el β) a e i A ∧ z_Lw u (fun i => -z_eh β i) a e i (-H) ∧ 0 ≤ A ∧ A ≤ 255 ∧ 0 ≤ H ∧ H ≤ 255 := by
  obtain ⟨A, H, q1, q2, q3, q4⟩ := h
  have k1 := z_Lw_r (M := 255) q3 h1 h2 (fun j => by have := hb (3 * j + 1); unfold z_el; omega)
  have k2 := z_Lw_r (M := 0) q4 h1 h2 (fun j => by show -z_eh β j ≤ 0; unfold z_eh; omega)
  have k3 : -z_eh β i ≤ -H := k2.1
  have k4 : 0 ≤ z_el β i := by unfold z_el; omega
  have k5 : z_eh β i ≤ 255 := by have := hb (3 * i + 2); unfold z_eh; omega
  exact ⟨A, H, q1, q2, q3, q4, by omega, k1.2, by omega, by omega⟩
theorem z_s69 (h8 : n ≤ 8) (hb : ∀ j, β j ≤ 255) {U : v_Sf} (hβ : ∀ j, j < 24 → f_X12_byteAt (z_i j) U = z_i (β j)) (x1 x2 x3 x4 : Int32) {E : Int32 × v_Sf} (hE : r_X12_escaped_69 x1 x2 x3 x4 0 n U = E) : ∀ (r k : Nat), k + r = n → (r_X12_escaped_69 x1 x2 x3 x4 r k U = E ∧ ∀ i, k ≤ i → i < n → z_Pe β i) ∨ ((r_X12_escaped_69 x1 x2 x3 x4 r k U).1 = Int32.ofInt (-3) ∧ ¬ ∀ i, k ≤ i → i < n → z_Pe β i) := by
  have hH : ∀ j, j ≤ 7 → f_X12_hourOf (z_i j) U = z_i (β (3 * j)) := fun j hj => by
    unfold f_X12_hourOf
    rw [(z_x3 j).1]
    exact hβ (3 * j) (by omega)
  intro r
  induction r with
  | zero =>
    intro k hk
    have e : k = n := by omega
    rw [e]
    exact Or.inl ⟨hE, fun i h1 h2 => by omega⟩
  | succ r ih =>
    intro k hk
    have b0 := hb (3 * k)
    have b1 := hb (3 * k + 1)
    have b2 := hb (3 * k + 2)
    rw [r_X12_escaped_69, (z_x3 k).2.2, (z_x3 k).2.1, hβ (3 * k + 2) (by omega), hβ (3 * k + 1) (by omega), hH k (by omega)]
    have nx : z_Pe β k → ((r_X12_escaped_69 x1 x2 x3 x4 r (k + 1) U = E ∧ ∀ i, k ≤ i → i < n → z_Pe β i) ∨ ((r_X12_escaped_69 x1 x2 x3 x4 r (k + 1) U).1 = Int32.ofInt (-3) ∧ ¬ ∀ i, k ≤ i → i < n → z_Pe β i)) := fun P => by
      rcases ih (k + 1) (by omega) with ⟨a, b⟩ | ⟨a, b⟩
      · refine Or.inl ⟨a, fun i h1 h2 => ?_⟩
        by_cases e : i = k
        · rw [e]
          exact P
        · exact b i (by omega) h2
      · exact Or.inr ⟨a, fun h => b (fun i h1 h2 => h i (by omega) h2)⟩
    by_cases d1 : Int32.ofInt 250 < z_i (β (3 * k + 2))
    · rw [if_pos d1]
      rw [show Int32.ofInt 250 = z_i 250 from rfl, z_ilt (by omega) (by omega)] at d1
      exact Or.inr ⟨rfl, fun h => by have := (h k (Nat.le_refl k) (by omega)).1; omega⟩
    · rw [if_neg d1]
      rw [show Int32.ofInt 250 = z_i 250 from rfl, z_ilt (by omega) (by omega)] at d1
      by_cases d2 : z_i (β (3 * k + 2)) < z_i (β (3 * k + 1))
      · rw [if_pos d2]
        rw [z_ilt (by omega) (by omega)] at d2
        exact Or.inr ⟨rfl, fun h => by have := (h k (Nat.le_refl k) (by omega)).2.1; omega⟩
      · rw [if_neg d2]
        rw [z_ilt (by omega) (by omega)] at d2
        by_cases d3 : z_i k ≤ 0
        · rw [if_pos d3]
          rw [show (0 : Int32) = z_i 0 from rfl, z_ile (by omega) (by omega)] at d3
          exact nx ⟨by omega, by omega, Or.inl (by omega)⟩
        · rw [if_neg d3]
          rw [show (0 : Int32) = z_i 0 from rfl, z_ile (by omega) (by omega)] at d3
          have b3 := hb (3 * (k - 1))
          have ek : z_i k - Int32.ofInt 1 = z_i (k - 1) := by
            have := z_isub (k - 1)
            rwa [show k - 1 + 1 = k by omega] at this
          rw [ek, hH (k - 1) (by omega)]
          by_cases d4 : z_i (β (3 * (k - 1))) < z_i (β (3 * k))
          · rw [if_pos d4]
            rw [z_ilt (by omega) (by omega)] at d4
            exact nx ⟨by omega, by omega, Or.inr d4⟩
          · rw [if_neg d4]
            rw [z_ilt (by omega) (by omega)] at d4
            exact Or.inr ⟨rfl, fun h => by have := (h k (Nat.le_refl k) (by omega)).2.2; omega⟩
theorem z_lah (h8 : n ≤ 8) (hv : v ≤ 99) (hb : ∀ j, β j ≤ 255) (hP : ∀ i, i < n → z_Pe β i) (hm : z_mon n (z_eu β v)) {U0 : v_Sf} (hβ : ∀ V : v_Sf, (∀ j, V 100 j = U0 100 j) → ∀ j, j < 24 → f_X12_byteAt (z_i j) V = z_i (β j)) : ∀ (r k : Nat) (U : v_Sf), k + r = n → (∀ a j, a ≠ 167 → a ≠ 168 → U a j = U0 a j) → (∀ i, i < k → z_In (z_eu β v) (z_el β) (z_eh β) 167 168 0 i i U) → (∀ j, j < k → z_rch (z_eu β v) (z_el β) (z_eh β) j) → (∃ U', r_X12_laysAhead_2 (z_i n) (z_i v) r k U = (Int32.ofInt 1, U') ∧ (∀ a j, a ≠ 167 → a ≠ 168 → U' a j = U0 a j) ∧ (∀ i, i < n → z_In (z_eu β v) (z_el β) (z_eh β) 167 168 0 i i U') ∧ ∀ j, j < n → z_rch (z_eu β v) (z_el β) (z_eh β) j) ∨ (∃ U', r_X12_laysAhead_2 (z_i n) (z_i v) r k U = (Int32.ofInt 0, U') ∧ ¬ ∀ j, j < n → z_rch (z_eu β v) (z_el β) (z_eh β) j) := by
  intro r
  induction r with
  | zero =>
    intro k U hk hU hI hR
    obtain rfl : k = n := by omega
    exact Or.inl ⟨U, by rw [r_X12_laysAhead_2], hU, hI, hR⟩
  | succ r ih =>
    intro k U hk hU hI hR
    have ek : (z_i k).toInt.toNat = k := z_iin (by omega)
    have h100 : ∀ j, U 100 j = U0 100 j := fun j => hU 100 j (by omega) (by omega)
    have hH : ∀ j, j ≤ 7 → f_X12_hourOf (z_i j) U = z_i (β (3 * j)) := fun j hj => by
      unfold f_X12_hourOf
      rw [(z_x3 j).1]
      exact hβ U h100 (3 * j) (by omega)
    have b1 := hb (3 * k + 1)
    have b2 := hb (3 * k + 2)
    have fin : ∀ A H : Int, 0 ≤ A ∧ A ≤ 255 → -30000 ≤ H ∧ H ≤ 30000 → z_Lw (z_eu β v) (z_el β) 0 k k A → z_Lw (z_eu β v) (fun i => -z_eh β i) 0 k k (-H) → (∃ U', (if Int32.ofInt A ≤ Int32.ofInt H then r_X12_laysAhead_2 (z_i n) (z_i v) r (k + 1) (z_s (z_s U 167 k (Int32.ofInt A)) 168 k (Int32.ofInt H)) else (Int32.ofInt 0, z_s (z_s U 167 k (Int32.ofInt A)) 168 k (Int32.ofInt H))) = (Int32.ofInt 1, U') ∧ (∀ a j, a ≠ 167 → a ≠ 168 → U' a j = U0 a j) ∧ (∀ i, i < n → z_In (z_eu β v) (z_el β) (z_eh β) 167 168 0 i i U') ∧ ∀ j, j < n → z_rch (z_eu β v) (z_el β) (z_eh β) j) ∨ (∃ U', (if Int32.ofInt A ≤ Int32.ofInt H then r_X12_laysAhead_2 (z_i n) (z_i v) r (k + 1) (z_s (z_s U 167 k (Int32.ofInt A)) 168 k (Int32.ofInt H)) else (Int32.ofInt 0, z_s (z_s U 167 k (Int32.ofInt A)) 168 k (Int32.ofInt H))) = (Int32.ofInt 0, U') ∧ ¬ ∀ j, j < n → z_rch (z_eu β v) (z_el β) (z_eh β) j) := fun A H rA rH LA LH => by
      have ag := z_agk LA LH
      by_cases q : A ≤ H
      · rw [if_pos (show Int32.ofInt A ≤ Int32.ofInt H by rw [z_leI2, q_ofr (by omega) (by omega), q_ofr (by omega) (by omega)]; exact q)]
        refine ih (k + 1) _ (by omega) (fun a j m1 m2 => by rw [z_sn (by omega), z_sn (by omega)]; exact hU a j m1 m2) (fun i hi => ?_) (fun j hj => ?_)
        · by_cases e : i = k
          · rw [e]
            exact ⟨A, H, by rw [z_sn (by omega), z_ss], z_ss, LA, LH⟩
          · obtain ⟨A2, H2, q1, q2, q3, q4⟩ := hI i (by omega)
            exact ⟨A2, H2, by rw [z_sn (by omega), z_sn (by omega)]; exact q1, by rw [z_sn (by omega), z_sn (by omega)]; exact q2, q3, q4⟩
        · by_cases e : j = k
          · rw [e]
            exact ag.mp q
          · exact hR j (by omega)
      · rw [if_neg (show ¬ Int32.ofInt A ≤ Int32.ofInt H by rw [z_leI2, q_ofr (by omega) (by omega), q_ofr (by omega) (by omega)]; exact q)]
        exact Or.inr ⟨_, rfl, fun h => q (ag.mpr (h k (by omega)))⟩
    have pk := hP k (by omega)
    by_cases k0 : k = 0
    · have e1 : f_X12_higher (z_i (β (3 * k + 1))) (Int32.ofInt 0) = Int32.ofInt (z_zmx (z_el β k) 0) := z_hgh (a := (β (3 * k + 1) : Int)) (b := 0) ⟨by omega, by omega⟩ ⟨by decide, by decide⟩
      have e2 : f_X12_lower (z_i (β (3 * k + 2))) (Int32.ofInt 250) = Int32.ofInt (-(z_zmx (-z_eh β k) (-250))) := z_lwr (a := (β (3 * k + 2) : Int)) (b := 250) ⟨by omega, by omega⟩ ⟨by decide, by decide⟩
      have v1 : z_zmx (z_el β k) 0 = z_el β k := by
        unfold z_zmx z_el
        split <;> omega
      have v2 : -(z_zmx (-z_eh β k) (-250)) = z_eh β k := by
        have := pk.1
        unfold z_zmx z_eh
        split <;> omega
      have r1 : 0 ≤ z_el β k ∧ z_el β k ≤ 255 := by unfold z_el; omega
      have r2 : 0 ≤ z_eh β k ∧ z_eh β k ≤ 255 := by unfold z_eh; omega
      have F := fin (z_el β k) (z_eh β k) r1 ⟨by omega, by omega⟩ (by have := z_Lw_1 (u := z_eu β v) (lo := z_el β) k; rw [k0] at this ⊢; exact this) (by have := z_Lw_1 (u := z_eu β v) (lo := fun i => -z_eh β i) k; rw [k0] at this ⊢; exact this)
      rw [r_X12_laysAhead_2, if_neg (show ¬ ¬ z_i k = 0 from fun m => m (by rw [k0]; rfl)), z_bs7, (z_x3 k).2.1, (z_x3 k).2.2, hβ U h100 (3 * k + 1) (by omega), hβ U h100 (3 * k + 2) (by omega), ek, e1, e2, v1, v2]
      exact F
    · obtain ⟨p, rfl⟩ : ∃ p, k = p + 1 := ⟨k - 1, by omega⟩
      obtain ⟨A', H', q1, q2, q3, q4, q5, q6, q7, q8⟩ := z_In_r hb (hI p (by omega)) (Nat.zero_le p) (Nat.le_refl p)
      have u1 := z_eub hv hb p
      have u2 := z_eub hv hb (p + 1)
      have mm := hm p (p + 1) (by omega) (by omega)
      have ep : (z_i p).toInt.toNat = p := z_iin (by omega)
      have ed : z_i v * (z_i (β (3 * (p + 1))) - z_i (β (3 * p))) = Int32.ofInt (z_eu β v (p + 1) - z_eu β v p) := z_vd v _ _
      have e1 : f_X12_higher (z_i (β (3 * (p + 1) + 1))) (Int32.ofInt A' - Int32.ofInt (z_eu β v (p + 1) - z_eu β v p)) = Int32.ofInt (z_zmx (z_el β (p + 1)) (A' - (z_eu β v (p + 1) - z_eu β v p))) := by
        rw [z_ois]
        exact z_hgh (a := (β (3 * (p + 1) + 1) : Int)) ⟨by omega, by omega⟩ ⟨by omega, by omega⟩
      have e2 : f_X12_lower (z_i (β (3 * (p + 1) + 2))) (Int32.ofInt H' + Int32.ofInt (z_eu β v (p + 1) - z_eu β v p)) = Int32.ofInt (-(z_zmx (-z_eh β (p + 1)) (-(H' + (z_eu β v (p + 1) - z_eu β v p))))) := by
        rw [z_oia]
        exact z_lwr (a := (β (3 * (p + 1) + 2) : Int)) ⟨by omega, by omega⟩ ⟨by omega, by omega⟩
      have LA := z_Lw_a hm (by omega) q3
      have LH := z_Lw_a hm (by omega) q4
      have v2 : z_zmx (-z_eh β (p + 1)) (-(H' + (z_eu β v (p + 1) - z_eu β v p))) = z_zmx (-z_eh β (p + 1)) (-H' - (z_eu β v (p + 1) - z_eu β v p)) := congrArg (z_zmx _) (by omega)
      have LH2 : z_Lw (z_eu β v) (fun i => -z_eh β i) 0 (p + 1) (p + 1) (-(-(z_zmx (-z_eh β (p + 1)) (-(H' + (z_eu β v (p + 1) - z_eu β v p)))))) := by
        rw [Int.neg_neg, v2]
        exact LH
      have r1 : 0 ≤ z_zmx (z_el β (p + 1)) (A' - (z_eu β v (p + 1) - z_eu β v p)) ∧ z_zmx (z_el β (p + 1)) (A' - (z_eu β v (p + 1) - z_eu β v p)) ≤ 255 := by
        unfold z_zmx z_el
        split <;> omega
      have r2 : -30000 ≤ -(z_zmx (-z_eh β (p + 1)) (-(H' + (z_eu β v (p + 1) - z_eu β v p)))) ∧ -(z_zmx (-z_eh β (p + 1)) (-(H' + (z_eu β v (p + 1) - z_eu β v p)))) ≤ 30000 := by
        unfold z_zmx z_eh
        split <;> omega
      have F := fin _ _ r1 r2 LA LH2
      rw [r_X12_laysAhead_2, if_pos (show ¬ z_i (p + 1) = 0 from fun m => by have := congrArg (fun z => z.toInt.toNat) m; simp only [z_iin (show p + 1 < 2147483648 by omega)] at this; exact absurd this (by show ¬ p + 1 = 0; omega)), z_bs7, (z_x3 (p + 1)).2.1, (z_x3 (p + 1)).2.2, hβ U h100 (3 * (p + 1) + 1) (by omega), hβ U h100 (3 * (p + 1) + 2) (by omega), z_isub p, hH (p + 1) (by omega), hH p (by omega), ek, ep, q1, q2, ed, e1, e2]
      exact F
theorem z_lbh (h8 : n ≤ 8) (h1n : 1 ≤ n) (hv : v ≤ 99) (hb : ∀ j, β j ≤ 255) (hP : ∀ i, i < n → z_Pe β i) (hm : z_mon n (z_eu β v)) {U0 : v_Sf} (hβ : ∀ V : v_Sf, (∀ j, V 100 j = U0 100 j) → ∀ j, j < 24 → f_X12_byteAt (z_i j) V = z_i (β j)) : ∀ (r : Nat) (V : v_Sf), r ≤ n → (∀ a j, a ≠ 169 → a ≠ 170 → V a j = U0 a j) → (∀ i, r ≤ i → i < n → z_In (z_eu β v) (z_el β) (z_eh β) 169 170 i (n - 1) i V) → (∀ a j, a ≠ 169 → a ≠ 170 → r_X12_laysBehind_4 (z_i n) (z_i v) r (Int32.ofInt ((r : Int) - 1)) V a j = U0 a j) ∧ ∀ i, i < n → z_In (z_eu β v) (z_el β) (z_eh β) 169 170 i (n - 1) i (r_X12_laysBehind_4 (z_i n) (z_i v) r (Int32.ofInt ((r : Int) - 1)) V) := by
  intro r
  induction r with
  | zero =>
    intro V _ hV hI
    rw [r_X12_laysBehind_4]
    exact ⟨hV, fun i hi => hI i (Nat.zero_le i) hi⟩
  | succ r ih =>
    intro V hr hV hI
    have er : (z_i r).toInt.toNat = r := z_iin (by omega)
    have ex : Int32.ofInt (((r + 1 : Nat) : Int) - 1) = z_i r := congrArg Int32.ofInt (by omega)
    have en : z_i n - Int32.ofInt 1 = z_i (n - 1) := by
      have := z_isub (n - 1)
      rwa [show n - 1 + 1 = n by omega] at this
    have em : z_i r + Int32.ofInt (-1) = Int32.ofInt ((r : Int) - 1) := (z_oia r (-1)).trans (congrArg Int32.ofInt (by omega))
    have h100 : ∀ j, V 100 j = U0 100 j := fun j => hV 100 j (by omega) (by omega)
    have hH : ∀ j, j ≤ 7 → f_X12_hourOf (z_i j) V = z_i (β (3 * j)) := fun j hj => by
      unfold f_X12_hourOf
      rw [(z_x3 j).1]
      exact hβ V h100 (3 * j) (by omega)
    have b1 := hb (3 * r + 1)
    have b2 := hb (3 * r + 2)
    have pk := hP r (by omega)
    have fin : ∀ A H : Int, z_Lw (z_eu β v) (z_el β) r (n - 1) r A → z_Lw (z_eu β v) (fun i => -z_eh β i) r (n - 1) r (-H) → (∀ a j, a ≠ 169 → a ≠ 170 → r_X12_laysBehind_4 (z_i n) (z_i v) r (Int32.ofInt ((r : Int) - 1)) (z_s (z_s V 169 r (Int32.ofInt A)) 170 r (Int32.ofInt H)) a j = U0 a j) ∧ ∀ i, i < n → z_In (z_eu β v) (z_el β) (z_eh β) 169 170 i (n - 1) i (r_X12_laysBehind_4 (z_i n) (z_i v) r (Int32.ofInt ((r : Int) - 1)) (z_s (z_s V 169 r (Int32.ofInt A)) 170 r (Int32.ofInt H))) := fun A H LA LH => by
      refine ih _ (by omega) (fun a j m1 m2 => by rw [z_sn (by omega), z_sn (by omega)]; exact hV a j m1 m2) (fun i h1 h2 => ?_)
      by_cases e : i = r
      · rw [e]
        exact ⟨A, H, by rw [z_sn (by omega), z_ss], z_ss, LA, LH⟩
      · obtain ⟨A2, H2, q1, q2, q3, q4⟩ := hI i (by omega) h2
        exact ⟨A2, H2, by rw [z_sn (by omega), z_sn (by omega)]; exact q1, by rw [z_sn (by omega), z_sn (by omega)]; exact q2, q3, q4⟩
    rw [ex, r_X12_laysBehind_4, en]
    by_cases r0 : r = n - 1
    · have e1 : f_X12_higher (z_i (β (3 * r + 1))) (Int32.ofInt 0) = Int32.ofInt (z_zmx (z_el β r) 0) := z_hgh (a := (β (3 * r + 1) : Int)) (b := 0) ⟨by omega, by omega⟩ ⟨by decide, by decide⟩
      have e2 : f_X12_lower (z_i (β (3 * r + 2))) (Int32.ofInt 250) = Int32.ofInt (-(z_zmx (-z_eh β r) (-250))) := z_lwr (a := (β (3 * r + 2) : Int)) (b := 250) ⟨by omega, by omega⟩ ⟨by decide, by decide⟩
      have v1 : z_zmx (z_el β r) 0 = z_el β r := by
        unfold z_zmx z_el
        split <;> omega
      have v2 : -(z_zmx (-z_eh β r) (-250)) = z_eh β r := by
        have := pk.1
        unfold z_zmx z_eh
        split <;> omega
      have F := fin (z_el β r) (z_eh β r) (by have := z_Lw_1 (u := z_eu β v) (lo := z_el β) r; rw [← r0]; exact this) (by have := z_Lw_1 (u := z_eu β v) (lo := fun i => -z_eh β i) r; rw [← r0]; exact this)
      rw [if_neg (show ¬ ¬ z_i r = z_i (n - 1) from fun m => m (by rw [r0])), z_bs9, (z_x3 r).2.1, (z_x3 r).2.2, hβ V h100 (3 * r + 1) (by omega), hβ V h100 (3 * r + 2) (by omega), er, em, e1, e2, v1, v2]
      exact F
    · obtain ⟨A', H', q1, q2, q3, q4, q5, q6, q7, q8⟩ := z_In_r hb (hI (r + 1) (by omega) (by omega)) (Nat.le_refl (r + 1)) (by omega)
      have u1 := z_eub hv hb r
      have u2 := z_eub hv hb (r + 1)
      have mm := hm r (r + 1) (by omega) (by omega)
      have er1 : (z_i (r + 1)).toInt.toNat = r + 1 := z_iin (by omega)
      have ed : z_i v * (z_i (β (3 * (r + 1))) - z_i (β (3 * r))) = Int32.ofInt (z_eu β v (r + 1) - z_eu β v r) := z_vd v _ _
      have e1 : f_X12_higher (z_i (β (3 * r + 1))) (Int32.ofInt A' - Int32.ofInt (z_eu β v (r + 1) - z_eu β v r)) = Int32.ofInt (z_zmx (z_el β r) (A' - (z_eu β v (r + 1) - z_eu β v r))) := by
        rw [z_ois]
        exact z_hgh (a := (β (3 * r + 1) : Int)) ⟨by omega, by omega⟩ ⟨by omega, by omega⟩
      have e2 : f_X12_lower (z_i (β (3 * r + 2))) (Int32.ofInt H' + Int32.ofInt (z_eu β v (r + 1) - z_eu β v r)) = Int32.ofInt (-(z_zmx (-z_eh β r) (-(H' + (z_eu β v (r + 1) - z_eu β v r))))) := by
        rw [z_oia]
        exact z_lwr (a := (β (3 * r + 2) : Int)) ⟨by omega, by omega⟩ ⟨by omega, by omega⟩
      have LA := z_Lw_b hm (by omega) (by omega) q3
      have LH := z_Lw_b hm (by omega) (by omega) q4
      have v2 : z_zmx (-z_eh β r) (-(H' + (z_eu β v (r + 1) - z_eu β v r))) = z_zmx (-z_eh β r) (-H' - (z_eu β v (r + 1) - z_eu β v r)) := congrArg (z_zmx _) (by omega)
      have LH2 : z_Lw (z_eu β v) (fun i => -z_eh β i) r (n - 1) r (-(-(z_zmx (-z_eh β r) (-(H' + (z_eu β v (r + 1) - z_eu β v r)))))) := by
        rw [Int.neg_neg, v2]
        exact LH
      have F := fin _ _ LA LH2
      rw [if_pos (show ¬ z_i r = z_i (n - 1) from fun m => by have := congrArg (fun z => z.toInt.toNat) m; simp only [z_iin (show r < 2147483648 by omega), z_iin (show n - 1 < 2147483648 by omega)] at this; omega), z_bs9, (z_x3 r).2.1, (z_x3 r).2.2, hβ V h100 (3 * r + 1) (by omega), hβ V h100 (3 * r + 2) (by omega), z_i1 r, hH (r + 1) (by omega), hH r (by omega), er, er1, em, q1, q2, ed, e1, e2]
      exact F
end EM
