/-! fair, escaped: what they leave -/
theorem z_fill97 (v : Int32) (S : v_Sf) : ∀ a j, a ≠ 97 → g_fill97 v S a j = S a j := by
  have lp : ∀ (r k : Nat) (S : v_Sf) (a j : Nat), a ≠ 97 → r_fill97_5 v (Int32.ofNat 12) r k S a j = S a j := by
    intro r
    induction r with
    | zero => intro k S a j h; rfl
    | succ r ih =>
      intro k S a j h
      rw [r_fill97_5, ih _ _ _ _ h, z_sn (by omega)]
  intro a j h
  exact lp _ _ _ _ _ h
theorem z_fill98 (v : Int32) (S : v_Sf) : ∀ a j, a ≠ 98 → g_fill98 v S a j = S a j := by
  have lp : ∀ (r k : Nat) (S : v_Sf) (a j : Nat), a ≠ 98 → r_fill98_5 v (Int32.ofNat 5) r k S a j = S a j := by
    intro r
    induction r with
    | zero => intro k S a j h; rfl
    | succ r ih =>
      intro k S a j h
      rw [r_fill98_5, ih _ _ _ _ h, z_sn (by omega)]
  intro a j h
  exact lp _ _ _ _ _ h
theorem z_rrw_f (x2 : Int32) : ∀ (r k : Nat) (x3 : Int32) (S : v_Sf) (a j : Nat), a ≠ 97 → a ≠ 98 → (r_X2_readRow_21 x2 r k x3 S).2 a j = S a j := by
  intro r
  induction r with
  | zero => intros; rfl
  | succ r ih =>
    intro k x3 S a j h1 h2
    rw [r_X2_readRow_21]
    repeat' split
    all_goals first | rfl | exact ih _ _ _ a j h1 h2 | rw [ih _ _ _ a j h1 h2, z_sn (by omega), z_sn (by omega)]
theorem z_rrow_f (x : Int32) (S : v_Sf) : ∀ a j, a ≠ 97 → a ≠ 98 → g_X2_readRow x S a j = S a j := by
  intro a j h1 h2
  unfold g_X2_readRow F_X2_readRow
  rw [z_rrw_f _ _ _ _ _ _ _ h1 h2, z_fill98 _ _ _ _ h2, z_fill97 _ _ _ _ h1]
theorem z_f167 (x2 : Int32) (κ : Int32 → v_Sf → Int32 × v_Sf) (k1 : Nat) (T : v_Sf) (hκ : ∀ v S, S = T → (κ v S).2 = T) : ∀ (r k : Nat) (x3 x5 : Int32) (S : v_Sf), S = T → (r_X12_fair_167 x2 κ k1 r k x3 x5 S).2 = T := by
  intro r
  induction r with
  | zero => intro k x3 x5 S h; exact hκ _ _ h
  | succ r ih =>
    intro k x3 x5 S h
    rw [r_X12_fair_167]
    repeat' split
    all_goals exact ih _ _ _ _ h
theorem z_f134 (x2 : Int32) (T : v_Sf) : ∀ (r k : Nat) (x3 : Int32) (S : v_Sf), S = T → (r_X12_fair_134 x2 r k x3 S).2 = T := by
  intro r
  induction r with
  | zero => intro k x3 S h; exact h
  | succ r ih =>
    intro k x3 S h
    rw [r_X12_fair_134]
    split
    all_goals exact z_f167 x2 _ k T (fun v S h => ih _ _ _ h) _ _ _ _ _ h
theorem z_f57 (x2 : Int32) : ∀ (r k : Nat) (S : v_Sf) (a j : Nat), a ≠ 165 → (r_X12_fair_57 x2 r k S).2 a j = S a j := by
  intro r
  induction r with
  | zero =>
    intro k S a j h
    rw [r_X12_fair_57, z_f134 x2 S _ _ _ S rfl]
  | succ r ih =>
    intro k S a j h
    rw [r_X12_fair_57]
    repeat' split
    all_goals first | rfl | exact ih _ _ a j h | rw [ih _ _ a j h, z_sn (by omega)]
theorem z_f37 (x2 : Int32) : ∀ (r k : Nat) (S : v_Sf) (a j : Nat), a ≠ 165 → (r_X12_fair_37 x2 r k S).2 a j = S a j := by
  intro r
  induction r with
  | zero =>
    intro k S a j h
    rw [r_X12_fair_37, z_f57 _ _ _ _ _ _ h]
  | succ r ih =>
    intro k S a j h
    rw [r_X12_fair_37, ih _ _ a j h, z_sn (by omega)]
theorem z_fair_rel {c b : Nat} (hc : z_cd c) (hb : z_cd b) {S T : v_Sf} (h : z_Rel c b S T) (a : Int32) : z_Rel c b (g_X11_fair a S) (g_X12_fair a T) := by
  have hcn := z_cdl hc
  have hbn := z_cdl hb
  obtain ⟨e, k⟩ := z_chosen h.1.choose_spec.1.1 a (lo := Int32.ofInt 1) (hi := Int32.ofInt 6) (by decide)
  have hT := h.2.2.1
  unfold g_X11_fair g_X12_fair F_X12_fair
  rw [← e]
  by_cases q : f_X11_chosen a (Int32.ofInt 1) (Int32.ofInt 6) S = 0
  · rw [if_pos q, if_pos q]
    exact h
  · obtain ⟨X, hX, rfl, l1, l2, ht⟩ := k q
    have ep : f_X12_sizeOf (z_i X) = f_J6_bitCount_0f7a4 (z_i X) := (z_bc12 (x := z_i X) (by rw [z_it3 (by omega)]; omega)).symm
    rw [if_neg q, if_neg q, ep, hT.2.1]
    by_cases q2 : f_J6_bitCount_0f7a4 (z_i X) ≤ T 99 1
    · rw [if_pos q2, if_pos q2]
      obtain ⟨Y, y1, -, -, y4⟩ := z_tks (X := X) 12 0 T (by omega)
      have gT : g_X12_takesSome (z_i X) T = Y := by
        unfold g_X12_takesSome F_X12_takesSome
        rw [show 12 - 0 = 12 from rfl]
        exact congrArg Prod.snd y1
      rw [gT]
      refine z_Rel_fr hc hb (z_Rel_e hc hb h) (fun a j m => ?_) (fun a j m => ?_)
      · unfold g_X8_empty
        rw [z_s_eq, z_s_eq, z_rrow_f _ _ a j (by omega) (by omega)]
      · rw [z_f37 _ _ _ _ _ _ (by omega), z_s_eq, z_s_eq, y4 a j (by omega)]
    · rw [if_neg q2, if_neg q2]
      exact h
theorem z_ahd_f (x1 x2 : Int32) : ∀ (r k : Nat) (S : v_Sf) (a j : Nat), a ≠ 167 → a ≠ 168 → (r_X12_laysAhead_2 x1 x2 r k S).2 a j = S a j := by
  intro r
  induction r with
  | zero => intros; rfl
  | succ r ih =>
    intro k S a j h1 h2
    rw [r_X12_laysAhead_2]
    repeat' split
    all_goals first | rw [ih _ _ a j h1 h2, z_sn (by omega), z_sn (by omega)] | exact (z_sn (by omega)).trans (z_sn (by omega))
theorem z_bhd_f (x1 x2 : Int32) : ∀ (r : Nat) (x3 : Int32) (S : v_Sf) (a j : Nat), a ≠ 169 → a ≠ 170 → r_X12_laysBehind_4 x1 x2 r x3 S a j = S a j := by
  intro r
  induction r with
  | zero => intros; rfl
  | succ r ih =>
    intro x3 S a j h1 h2
    rw [r_X12_laysBehind_4]
    repeat' split
    all_goals rw [ih _ _ a j h1 h2, z_sn (by omega), z_sn (by omega)]
theorem z_e174 (x1 x2 x3 x4 : Int32) : ∀ (r k : Nat) (x5 x6 : Int32) (S : v_Sf), (r_X12_escaped_174 x1 x2 x3 x4 r k x5 x6 S).2 = S := by
  intro r
  induction r with
  | zero =>
    intro k x5 x6 S
    rw [r_X12_escaped_174]
    repeat' split
    all_goals rfl
  | succ r ih =>
    intro k x5 x6 S
    rw [r_X12_escaped_174]
    repeat' split
    all_goals first | rfl | exact ih _ _ _ _
theorem z_e69 (x1 x2 x3 x4 : Int32) : ∀ (r k : Nat) (S : v_Sf) (a j : Nat), ¬ (167 ≤ a ∧ a ≤ 170) → (r_X12_escaped_69 x1 x2 x3 x4 r k S).2 a j = S a j := by
  intro r
  induction r with
  | zero =>
    intro k S a j h
    rw [r_X12_escaped_69]
    have e1 : g_X12_laysAhead x1 x2 S a j = S a j := z_ahd_f _ _ _ _ _ _ _ (by omega) (by omega)
    have e2 : ∀ U, g_X12_laysBehind x1 x2 U a j = U a j := fun U => z_bhd_f _ _ _ _ _ _ _ (by omega) (by omega)
    repeat' split
    all_goals first | exact e1 | (rw [z_e174, e2]; exact e1)
  | succ r ih =>
    intro k S a j h
    rw [r_X12_escaped_69]
    repeat' split
    all_goals first | rfl | exact ih _ _ a j h
theorem z_esc_rel {c b : Nat} (hc : z_cd c) (hb : z_cd b) {S T : v_Sf} (h : z_Rel c b S T) (n v o x : Int32) : z_Rel c b (g_X11_escaped n v o x S) (g_X12_escaped n v o x T) := by
  have hcn := z_cdl hc
  have hbn := z_cdl hb
  have hT := h.2.2.1
  unfold g_X11_escaped g_X12_escaped F_X12_escaped
  by_cases r0 : 1 ≤ n.toInt ∧ n.toInt ≤ 8
  · have a0 : ¬ n < Int32.ofInt 1 := by
      rw [z_ltI2, show (Int32.ofInt 1).toInt = 1 from rfl]
      omega
    have a1 : ¬ Int32.ofInt 8 < n := by
      rw [z_ltI2, show (Int32.ofInt 8).toInt = 8 from rfl]
      omega
    rw [if_neg a0, if_neg a1, if_neg (fun m => z_in0.mp m r0)]
    by_cases r1 : 0 ≤ v.toInt ∧ v.toInt ≤ 99
    · rw [if_neg (fun m => z_within.mp m r1), if_neg (fun m => z_in0.mp m r1)]
      by_cases r2 : 0 ≤ o.toInt ∧ o.toInt ≤ 255
      · rw [if_neg (fun m => z_within.mp m r2), if_neg (fun m => z_in0.mp m r2)]
        by_cases r3 : 0 ≤ x.toInt ∧ x.toInt ≤ 99
        · rw [if_neg (fun m => z_within.mp m r3), if_neg (fun m => z_in0.mp m r3), hT.2.1]
          by_cases q : Int32.ofInt 3 * n ≤ T 99 1
          · rw [if_pos q, if_pos q]
            exact z_Rel_fr hc hb (z_Rel_e hc hb h) (fun a j m => rfl) (fun a j m => z_e69 _ _ _ _ _ _ _ _ _ (by omega))
          · rw [if_neg q, if_neg q]
            exact h
        · rw [if_pos (z_within.mpr r3), if_pos (z_in0.mpr r3)]
          exact h
      · rw [if_pos (z_within.mpr r2), if_pos (z_in0.mpr r2)]
        exact h
    · rw [if_pos (z_within.mpr r1), if_pos (z_in0.mpr r1)]
      exact h
  · rw [if_pos (z_in0.mpr r0)]
    by_cases a0 : n < Int32.ofInt 1
    · rw [if_pos a0]
      exact h
    · have a1 : Int32.ofInt 8 < n := by
        rw [z_ltI2, show (Int32.ofInt 1).toInt = 1 from rfl] at a0
        rw [z_ltI2, show (Int32.ofInt 8).toInt = 8 from rfl]
        omega
      rw [if_neg a0, if_pos a1]
      exact h
