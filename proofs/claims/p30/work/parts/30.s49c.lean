/-! nursed: the reference's rows -/
noncomputable def z_fN (V U : v_Sf) : Prop := ∀ a j, ¬ (a = 99 ∧ 27 ≤ j ∧ j ≤ 40 ∨ a = 114 ∨ a = 115 ∨ a = 154 ∨ a = 155) → U a j = V a j
noncomputable def z_Jn (n : Nat) (B : z_Gt) (V : v_Sf) (y : Int32) (U : v_Sf) : Prop := z_fN V U ∧ (y = if B.1 < 1000 then Int32.ofInt B.1 else Int32.ofInt 1000000000) ∧ (B.1 < 1000 → ∀ j, j < n → U 155 j = z_i (B.2 j)) ∧ 0 ≤ B.1 ∧ B.1 ≤ 1000
set_option maxRecDepth 100000 in
theorem z_ord_all : ∀ n : Fin 6, ∀ m : Fin (n.val ^ n.val), decide (z_un (z_gd n.val n.val m.val) n.val = 2 ^ n.val - 1) = decide (∀ j : Fin n.val, ∀ l : Fin j.val, z_gd n.val n.val m.val l.val ≠ z_gd n.val n.val m.val j.val) := by decide +kernel
section NR
variable {n : Nat} {cst : Nat → Nat → Int} {V : v_Sf}
theorem z_isO {x : Nat → Nat} {U : v_Sf} (h5 : n ≤ 5) (hx : ∀ j, j < n → x j < n ∧ U 154 j = z_i (x j)) : ∀ (r k : Nat), k + r = n → r_X12_isOrder_4 (z_i n) U r k (z_i (z_un x k)) = if z_un x n = 2 ^ n - 1 then Int32.ofInt 1 else Int32.ofInt 0 := by
  intro r
  induction r with
  | zero =>
    intro k hk
    obtain rfl : k = n := by omega
    have hm : (Int32.ofInt 1 <<< (z_i k &&& 31)) - Int32.ofInt 1 = z_i (2 ^ k - 1) := z_msk_all ⟨k, by omega⟩
    have hl := z_un_lt (x := x) k (fun j hj => by have := (hx j hj).1; omega)
    have h2 : 2 ^ k ≤ 2 ^ 5 := Nat.pow_le_pow_right (by decide) h5
    rw [r_X12_isOrder_4, hm]
    by_cases q : z_un x k = 2 ^ k - 1
    · rw [if_neg (not_not_intro (by rw [q])), if_pos q]
    · rw [if_pos (fun m => q (by have := congrArg (fun z => z.toInt.toNat) m; simp only [z_iin (show z_un x k < 2147483648 by omega), z_iin (show 2 ^ k - 1 < 2147483648 by omega)] at this; exact this)), if_neg q]
  | succ r ih =>
    intro k hk
    obtain ⟨h1, h2⟩ := hx k (by omega)
    rw [r_X12_isOrder_4, z_iin (by omega), h2, z_ior (z_un_lt k (fun j hj => by have := (hx j (by omega)).1; omega)) (by omega)]
    exact ih (k + 1) (by omega)
theorem z_n124 (hf : ∀ U, z_fN V U → ∀ i k, i < n → k < n → f_X12_falling (V 152 k) (V 153 i) U = Int32.ofInt (cst i k) ∧ ∀ a j, ¬ (a = 99 ∧ 27 ≤ j ∧ j ≤ 40) → a ≠ 114 → a ≠ 115 → g_X12_falling (V 152 k) (V 153 i) U a j = U a j) (h5 : n ≤ 5) {x : Nat → Nat} (hx : ∀ j, j < n → x j < n) (x2 x3 : Int32) (κ : Int32 → v_Sf → Int32 × v_Sf) (k0 : Nat) (y : Int32) : ∀ (r i : Nat) (z : Int32) (U : v_Sf), i + r = n → z_fN V U → (∀ j, j < n → U 154 j = z_i (x j)) → z = Int32.ofInt (z_cs cst x i) → ∃ U', r_X12_nursed_124 x2 x3 (z_i n) (z_i n) κ k0 r i y z U = (if Int32.ofInt (z_cs cst x n) < y then κ (Int32.ofInt (z_cs cst x n)) (g_X12_keepsRow (z_i n) U') else κ y U') ∧ z_fN V U' ∧ (∀ j, j < n → U' 154 j = z_i (x j)) ∧ ∀ j, U' 155 j = U 155 j := by
  intro r
  induction r with
  | zero =>
    intro i z U hi hU h154 hz
    obtain rfl : i = n := by omega
    exact ⟨U, by rw [r_X12_nursed_124, hz], hU, h154, fun j => rfl⟩
  | succ r ih =>
    intro i z U hi hU h154 hz
    have ei : (z_i i).toInt.toNat = i := z_iin (by omega)
    have hxi := hx i (by omega)
    have ex : (z_i (x i)).toInt.toNat = x i := z_iin (by omega)
    obtain ⟨f1, f2⟩ := hf U hU i (x i) (by omega) hxi
    rw [r_X12_nursed_124, ei, h154 i (by omega), ex, hU 152 _ (by omega), hU 153 _ (by omega), f1]
    obtain ⟨U', u1, u2, u3, u4⟩ := ih (i + 1) (z + Int32.ofInt (cst i (x i))) (g_X12_falling (V 152 (x i)) (V 153 i) U) (by omega) (fun a j q => by rw [f2 a j (by omega) (by omega) (by omega)]; exact hU a j q) (fun j hj => by rw [f2 154 j (by omega) (by omega) (by omega)]; exact h154 j hj) (by rw [hz, z_oia, z_cs])
    exact ⟨U', u1, u2, u3, fun j => by rw [u4 j, f2 155 j (by omega) (by omega) (by omega)]⟩
theorem z_n124i (x2 x3 x4 x5 : Int32) (κ : Int32 → v_Sf → Int32 × v_Sf) (k0 : Nat) : ∀ (r i : Nat) (y z : Int32) (U : v_Sf), r_X12_nursed_124 x2 x3 x4 x5 κ k0 r i y z U = κ (r_X12_nursed_124 x2 x3 x4 x5 (fun v S => (v, S)) k0 r i y z U).1 (r_X12_nursed_124 x2 x3 x4 x5 (fun v S => (v, S)) k0 r i y z U).2 := by
  intro r
  induction r with
  | zero =>
    intro i y z U
    rw [r_X12_nursed_124, r_X12_nursed_124]
    split <;> rfl
  | succ r ih =>
    intro i y z U
    rw [r_X12_nursed_124, r_X12_nursed_124]
    exact ih _ _ _ _
theorem z_n84 (hf : ∀ U, z_fN V U → ∀ i k, i < n → k < n → f_X12_falling (V 152 k) (V 153 i) U = Int32.ofInt (cst i k) ∧ ∀ a j, ¬ (a = 99 ∧ 27 ≤ j ∧ j ≤ 40) → a ≠ 114 → a ≠ 115 → g_X12_falling (V 152 k) (V 153 i) U a j = U a j) (hc : ∀ i k, 0 ≤ cst i k ∧ cst i k ≤ 10) (h1 : 1 ≤ n) (h5 : n ≤ 5) (x2 x3 : Int32) {B : z_Gt} {y : Int32} {U : v_Sf} (J : z_Jn n B V y U) {k : Nat} (hk : k < n ^ n) : ∃ y' U', (∀ R, r_X12_nursed_84 x2 x3 (z_i n) (z_i n) (R + 1) k y U = r_X12_nursed_84 x2 x3 (z_i n) (z_i n) R (k + 1) y' U') ∧ z_Jn n (z_gs n (z_ord n) (z_cs cst) (z_gd n n k) B) V y' U' := by
  obtain ⟨j1, j2, j3, j4, j5⟩ := id J
  have en : (z_i n).toInt.toNat = n := z_iin (by omega)
  have en1 : z_i n - Int32.ofInt 1 = Int32.ofInt ((n : Int) - 1) := by
    unfold z_i
    rw [z_ois]
  have hkb : k < 1000000 := by
    have h2 : n ^ n ≤ 5 ^ 5 := Nat.le_trans (Nat.pow_le_pow_left h5 n) (Nat.pow_le_pow_right (by decide) h5)
    omega
  obtain ⟨W, w1, w2, w3⟩ := z_opnK (K := n) (by omega) n k U (by omega) hkb
  have eW : g_X12_opensRow (z_i k) (z_i n) (z_i n) U = W := by
    unfold g_X12_opensRow F_X12_opensRow
    rw [en1, q_ofr (by omega) (by omega), show ((n : Int) - 1 + 1).toNat = n by omega]
    exact w1
  have hx : ∀ j, j < n → z_gd n n k j < n := fun j _ => Nat.mod_lt _ (by omega)
  have w154 : ∀ j, j < n → W 154 j = z_i (z_gd n n k j) := fun j hj => w2 j hj
  have fW : z_fN V W := fun a j q => by rw [w3 a j (by omega)]; exact j1 a j q
  have io : f_X12_isOrder (z_i n) W = if z_un (z_gd n n k) n = 2 ^ n - 1 then Int32.ofInt 1 else Int32.ofInt 0 := by
    unfold f_X12_isOrder F_X12_isOrder
    rw [en, Nat.sub_zero]
    exact z_isO h5 (fun j hj => ⟨hx j hj, w154 j hj⟩) n 0 (by omega)
  have oa := z_ord_all ⟨n, by omega⟩ ⟨k, hk⟩
  dsimp only at oa
  have oi : z_un (z_gd n n k) n = 2 ^ n - 1 ↔ z_ord n (z_gd n n k) n := by
    rw [decide_eq_decide] at oa
    rw [oa]
    exact ⟨fun m => ⟨hx, fun j hj l hl => m ⟨j, hj⟩ ⟨l, hl⟩⟩, fun m j l => m.2 j.val j.isLt l.val l.isLt⟩
  have cb := z_cs_b hc (z_gd n n k) n
  have unf : ∀ R, r_X12_nursed_84 x2 x3 (z_i n) (z_i n) (R + 1) k y U = (if ¬ (f_X12_isOrder (z_i n) W) = 0 then r_X12_nursed_124 x2 x3 (z_i n) (z_i n) (fun v0 S => r_X12_nursed_84 x2 x3 (z_i n) (z_i n) R (k + 1) v0 S) k n 0 y (Int32.ofInt 0) W else r_X12_nursed_84 x2 x3 (z_i n) (z_i n) R (k + 1) y W) := fun R => by
    rw [r_X12_nursed_84, eW, en, Nat.sub_zero]
  have stay : ∀ U', z_fN V U' → (∀ j, U' 155 j = W 155 j) → z_Jn n B V y U' := fun U' h1 h2 => ⟨h1, j2, fun m j hj => by rw [h2 j, w3 155 j (by omega)]; exact j3 m j hj, j4, j5⟩
  unfold z_gs
  by_cases q : z_un (z_gd n n k) n = 2 ^ n - 1
  · have vo := oi.mp q
    rw [if_pos q] at io
    have lt_iff : (Int32.ofInt (z_cs cst (z_gd n n k) n) < y) ↔ z_cs cst (z_gd n n k) n < B.1 := by
      rw [j2]
      by_cases m : B.1 < 1000
      · rw [if_pos m]
        exact z_oil (by omega) (by omega)
      · rw [if_neg m, z_ltI2, q_ofr (by omega) (by omega), show (Int32.ofInt 1000000000).toInt = 1000000000 from rfl]
        omega
    by_cases lt : z_cs cst (z_gd n n k) n < B.1
    · rw [if_pos ⟨vo, lt⟩]
      -- the same row whatever comes behind
      obtain ⟨U', u1, u2, u3, u4⟩ := z_n124 hf h5 hx x2 x3 (fun v S => (v, S)) k y n 0 (Int32.ofInt 0) W (by omega) fW w154 rfl
      have key : ∀ R, ∃ U2, r_X12_nursed_84 x2 x3 (z_i n) (z_i n) (R + 1) k y U = r_X12_nursed_84 x2 x3 (z_i n) (z_i n) R (k + 1) (Int32.ofInt (z_cs cst (z_gd n n k) n)) (g_X12_keepsRow (z_i n) U2) ∧ (Int32.ofInt (z_cs cst (z_gd n n k) n), g_X12_keepsRow (z_i n) U2) = (Int32.ofInt (z_cs cst (z_gd n n k) n), g_X12_keepsRow (z_i n) U') := fun R => by
        have h2 := z_n124i x2 x3 (z_i n) (z_i n) (fun v0 S => r_X12_nursed_84 x2 x3 (z_i n) (z_i n) R (k + 1) v0 S) k n 0 y (Int32.ofInt 0) W
        rw [u1, if_pos (lt_iff.mpr lt)] at h2
        exact ⟨U', by rw [unf, io, if_pos (by decide)]; exact h2, rfl⟩
      refine ⟨Int32.ofInt (z_cs cst (z_gd n n k) n), g_X12_keepsRow (z_i n) U', fun R => ?_, ?_⟩
      · obtain ⟨U2, e1, e2⟩ := key R
        injection e2 with _ e2
        rw [e1, e2]
      · unfold g_X12_keepsRow F_X12_keepsRow
        obtain ⟨X, x1, xx2, xx3, xx4⟩ := z_keepR (n := n) n 0 U' (by omega)
        rw [en, Nat.sub_zero, x1]
        refine ⟨fun a j m => by rw [xx3 a j (by omega)]; exact u2 a j m, ?_, fun _ j hj => ?_, cb.1, ?_⟩
        · show _ = if z_cs cst (z_gd n n k) n < 1000 then _ else _
          rw [if_pos (by omega)]
        · rw [xx2 j (by omega) (by omega)]
          exact u3 j hj
        · show z_cs cst (z_gd n n k) n ≤ 1000
          omega
    · rw [if_neg (fun m => lt m.2)]
      obtain ⟨U', u1, u2, u3, u4⟩ := z_n124 hf h5 hx x2 x3 (fun v S => (v, S)) k y n 0 (Int32.ofInt 0) W (by omega) fW w154 rfl
      refine ⟨y, U', fun R => ?_, stay U' u2 u4⟩
      have h2 := z_n124i x2 x3 (z_i n) (z_i n) (fun v0 S => r_X12_nursed_84 x2 x3 (z_i n) (z_i n) R (k + 1) v0 S) k n 0 y (Int32.ofInt 0) W
      rw [u1, if_neg (fun m => lt (lt_iff.mp m))] at h2
      rw [unf, io, if_pos (by decide)]
      exact h2
  · rw [if_neg q] at io
    rw [if_neg (fun m => q (oi.mpr m.1))]
    exact ⟨y, W, fun R => by rw [unf, io, if_neg (show ¬ ¬ Int32.ofInt 0 = 0 from fun m => m rfl)], stay W fW (fun j => rfl)⟩
theorem z_nge (hf : ∀ U, z_fN V U → ∀ i k, i < n → k < n → f_X12_falling (V 152 k) (V 153 i) U = Int32.ofInt (cst i k) ∧ ∀ a j, ¬ (a = 99 ∧ 27 ≤ j ∧ j ≤ 40) → a ≠ 114 → a ≠ 115 → g_X12_falling (V 152 k) (V 153 i) U a j = U a j) (hc : ∀ i k, 0 ≤ cst i k ∧ cst i k ≤ 10) (h1 : 1 ≤ n) (h5 : n ≤ 5) (x2 x3 : Int32) : ∀ (R k : Nat) (B : z_Gt) (y : Int32) (U : v_Sf), k + R ≤ n ^ n → z_Jn n B V y U → ∃ y' U', r_X12_nursed_84 x2 x3 (z_i n) (z_i n) R k y U = (if ¬ x3 = Int32.ofInt 20 then (U' 152 ((U' 155 ((f_X12_placeIn x2 x3).toInt.toNat)).toInt.toNat), U') else (y', U')) ∧ z_Jn n (z_ge n n (z_ord n) (z_cs cst) R k B) V y' U' := by
  intro R
  induction R with
  | zero =>
    intro k B y U _ J
    exact ⟨y, U, by rw [r_X12_nursed_84], J⟩
  | succ R ih =>
    intro k B y U hk J
    obtain ⟨y1, U1, e1, J1⟩ := z_n84 hf hc h1 h5 x2 x3 J (k := k) (by omega)
    rw [e1, z_ge]
    exact ih (k + 1) _ y1 U1 (by omega) J1
end NR
