/-! fair: the answers -/
theorem z_subJ {a b : Int32} (ha : -1000000 ≤ a.toInt ∧ a.toInt ≤ 1000000) (hb : -1000000 ≤ b.toInt ∧ b.toInt ≤ 1000000) : (a - b).toInt = a.toInt - b.toInt := by
  rw [← q_of a, ← q_of b, ← Int32.ofInt_sub, q_of, q_of]
  exact q_ofr (by omega) (by omega)
/-- what houses and gusts are asked by -/
noncomputable def z_HF (U V : v_Sf) : Prop := z_told 12 4095 (U 1 0) (V 116) ∧ z_co 12 (U 2) (V 117) 0 99 ∧ z_co 12 (U 7) (V 122) 0 1023 ∧ z_told 5 (2 ^ 5 - 1 : Nat) (U 94 0) (V 162) ∧ z_co 5 (U 95) (V 163) 0 99 ∧ z_co 5 (U 96) (V 164) 0 1023
theorem z_higherE {U V : v_Sf} (h : z_HF U V) {k : Nat} (hk : k < 5) {o : Int32} (ho : o = Int32.ofInt (-1) ∨ ∃ m, m < 5 ∧ o = z_i m) : f_X2_higher (z_i k) o U = f_X12_isHigher (z_i k) o V := by
  obtain ⟨h1, h2, h3, h4, h5, h6⟩ := h
  have ek : (z_i k).toInt.toNat = k := z_iin (by omega)
  have k0 : ¬ z_i k < 0 := by
    rw [show (0 : Int32) = z_i 0 from rfl, z_ilt (by omega) (by omega)]
    omega
  unfold f_X2_higher f_X12_isHigher
  rw [if_neg k0, ek]
  rcases ho with rfl | ⟨m, hm, rfl⟩
  · rw [if_pos (by decide), if_neg (by decide), if_pos rfl]
  · have em : (z_i m).toInt.toNat = m := z_iin (by omega)
    rw [if_neg (by rw [show (0 : Int32) = z_i 0 from rfl, z_ilt (by omega) (by omega)]; omega), if_neg (by rw [show Int32.ofInt 5 = z_i 5 from rfl, z_ile (by omega) (by omega)]; omega), if_pos (by rw [show Int32.ofInt 5 = z_i 5 from rfl, z_ilt (by omega) (by omega)]; omega), if_neg (z_nm1 (by omega)), em, (h5 k hk).1, (h5 m hm).1]
theorem z_bcS {x : Int32} (h : 0 ≤ x.toInt ∧ x.toInt ≤ 1023) : f_X12_sizeOf x = f_J6_bitCount_0f7a4 x ∧ 0 ≤ (f_J6_bitCount_0f7a4 x).toInt ∧ (f_J6_bitCount_0f7a4 x).toInt ≤ 12 := by
  obtain ⟨X, hX, rfl⟩ : ∃ X, X < 1024 ∧ x = z_i X := ⟨x.toInt.toNat, by omega, (z_ofN h.1).symm⟩
  have e := z_bcN (X := X) (by omega)
  have hc := z_cn12 X
  refine ⟨(z_bc h).symm, ?_, ?_⟩
  · rw [e, z_it3 (by omega)]
    omega
  · rw [e, z_it3 (by omega)]
    omega
theorem z_dearE {U V : v_Sf} (h : z_HF U V) {k g : Nat} (hk : k < 5) (hg : g < 12) (tg : ¬ V 116 g = 0) {o : Int32} (ho : o = Int32.ofInt (-1) ∨ ∃ m, m < 12 ∧ ¬ V 116 m = 0 ∧ o = z_i m) : f_X2_dearer (z_i k) (z_i g) o U = f_X12_isLiked (z_i k) (z_i g) o V := by
  obtain ⟨h1, h2, h3, h4, h5, h6⟩ := h
  have ek : (z_i k).toInt.toNat = k := z_iin (by omega)
  have eg : (z_i g).toInt.toNat = g := z_iin (by omega)
  have k0 : ¬ z_i k < 0 := by
    rw [show (0 : Int32) = z_i 0 from rfl, z_ilt (by omega) (by omega)]
    omega
  have k5 : ¬ Int32.ofInt 5 ≤ z_i k := by
    rw [show Int32.ofInt 5 = z_i 5 from rfl, z_ile (by omega) (by omega)]
    omega
  have hhas : ∀ m, m < 12 → ((f_X7_hasGust 1 (z_i m) U = 0) ↔ V 116 m = 0) := fun m hm => by
    rw [z_hasG U hm, h1.2 m hm]
    exact Classical.not_not
  unfold f_X2_dearer f_X12_isLiked
  rw [if_neg k0, if_neg k5, if_neg (fun m => tg ((hhas g hg).mp m)), ek, eg]
  rcases ho with rfl | ⟨m, hm, tm, rfl⟩
  · have n1 : f_X7_hasGust 1 (Int32.ofInt (-1)) U = 0 := by
      unfold f_X7_hasGust
      rw [if_pos (by decide)]
      rfl
    rw [if_neg (not_not_intro n1), if_neg (by decide), if_neg (not_not_intro rfl)]
  · have em : (z_i m).toInt.toNat = m := z_iin (by omega)
    have w6 := h6 k hk
    have wg := h3 g hg
    have wm := h3 m hm
    have a1 := z_andR (h := V 122 g) (m := V 164 k) wg.2
    have a2 := z_andR (h := V 122 m) (m := V 164 k) wm.2
    obtain ⟨b1, b2, b3⟩ := z_bcS a1
    obtain ⟨c1, c2, c3⟩ := z_bcS a2
    have s1 := h2 g hg
    have s2 := h2 m hm
    rw [if_pos (fun q => tm ((hhas m hm).mp q)), if_pos (z_nm1 (by omega)), em, wg.1, wm.1, w6.1, s1.1, s2.1, b1, c1]
    generalize f_J6_bitCount_0f7a4 (V 122 g &&& V 164 k) = A at *
    generalize f_J6_bitCount_0f7a4 (V 122 m &&& V 164 k) = B at *
    have d1 := z_subJ (a := A) (b := B) (by omega) (by omega)
    have d2 := z_subJ (a := V 117 g) (b := V 117 m) (by omega) (by omega)
    have e0 : (0 : Int32).toInt = 0 := rfl
    by_cases q : A = B
    · have q0 : A - B = 0 := z_inj2 (by rw [d1, q, e0]; omega)
      rw [if_pos q0, if_pos q]
      by_cases r : V 117 g = V 117 m
      · have r0 : V 117 g - V 117 m = 0 := z_inj2 (by rw [d2, r, e0]; omega)
        rw [if_neg (by rw [r0]; decide), if_neg (not_not_intro r0), if_pos r]
      · have r0 : ¬ V 117 g - V 117 m = 0 := fun z => r (z_inj2 (by have := congrArg Int32.toInt z; rw [d2, e0] at this; omega))
        rw [if_neg r]
        by_cases l : V 117 g ≤ V 117 m
        · rw [if_neg (by rw [z_ltI2, d2, e0]; rw [z_leI2] at l; omega), if_pos r0, if_pos l]
        · rw [if_pos (by rw [z_ltI2, d2, e0]; rw [z_leI2] at l; omega), if_neg l]
    · have q0 : ¬ A - B = 0 := fun z => q (z_inj2 (by have := congrArg Int32.toInt z; rw [d1, e0] at this; omega))
      rw [if_neg q0, if_neg q]
      by_cases l : A ≤ B
      · rw [if_pos (by rw [z_leI2, d1, e0]; rw [z_leI2] at l; omega), if_pos l]
      · rw [if_neg (by rw [z_leI2, d1, e0]; rw [z_leI2] at l; omega), if_neg l]
/-- the row, as far as it has been read -/
noncomputable def z_RW (X k : Nat) (W : Nat → Int32) (S0 V0 U V : v_Sf) : Prop := (∀ a j, a ≠ 97 → a ≠ 98 → U a j = S0 a j) ∧ (∀ a j, a ≠ 165 → V a j = V0 a j) ∧ (∀ h, h < 5 → U 98 h = V 165 h ∧ (U 98 h = Int32.ofInt (-1) ∨ ∃ g, g < 12 ∧ X.testBit g = true ∧ U 98 h = z_i g)) ∧ ∀ g, g < 12 → (g < k ∧ X.testBit g = true → U 97 g = (if W (z_cn X g) = Int32.ofInt 255 then Int32.ofInt (-1) else W (z_cn X g)) ∧ (U 97 g = Int32.ofInt (-1) ∨ ∃ m, m < 5 ∧ U 97 g = z_i m)) ∧ (k ≤ g → U 97 g = Int32.ofInt (-1))
theorem z_row_l {X : Nat} (hX : X < 4096) (h6 : z_cn X 12 ≤ 6) {S0 V0 : v_Sf} {W : Nat → Int32} (hat : ∀ (U : v_Sf) (m : Nat), (∀ a j, a ≠ 97 → a ≠ 98 → U a j = S0 a j) → m < z_cn X 12 → f_X8_at (z_i m) U = W m) (hby : ∀ (V : v_Sf) (m : Nat), (∀ a j, a ≠ 165 → V a j = V0 a j) → m < z_cn X 12 → f_X12_byteAt (z_i m) V = W m) (hW : ∀ m, m < z_cn X 12 → 0 ≤ (W m).toInt ∧ (W m).toInt ≤ 255) (h5 : z_told 5 (2 ^ 5 - 1 : Nat) (S0 94 0) (V0 162)) (h152 : ∀ j, j < 12 → X.testBit j = true → V0 152 (z_cn X j) = z_i j) : ∀ (r k : Nat) (U V : v_Sf), k + r = 12 → z_RW X k W S0 V0 U V → ∃ U' V', z_RW X 12 W S0 V0 U' V' ∧ r_X2_readRow_21 (z_i X) r k (z_i (z_cn X k)) U = (Int32.ofInt 1, U') ∧ r_X12_fair_57 (z_i (z_cn X 12)) (z_cn X 12 - z_cn X k) (z_cn X k) V = r_X12_fair_134 (z_i (z_cn X 12)) (z_cn X 12) 0 (Int32.ofInt 0) V' ∨ r_X2_readRow_21 (z_i X) r k (z_i (z_cn X k)) U = (Int32.ofInt 0, U') ∧ r_X12_fair_57 (z_i (z_cn X 12)) (z_cn X 12 - z_cn X k) (z_cn X k) V = (Int32.ofInt (-2), V') := by
  obtain ⟨⟨t1, t2⟩, t3⟩ := h5
  obtain ⟨M, hM, hMe⟩ : ∃ M, M < 32 ∧ S0 94 0 = z_i M := ⟨(S0 94 0).toInt.toNat, by omega, (z_ofN t1).symm⟩
  intro r
  induction r with
  | zero =>
    intro k U V hk hR
    obtain rfl : k = 12 := by omega
    refine ⟨U, V, Or.inl ⟨hR, by rw [r_X2_readRow_21], ?_⟩⟩
    rw [Nat.sub_self, r_X12_fair_57, z_iin (by omega), Nat.sub_zero]
  | succ r ih =>
    intro k U V hk hR
    have hk12 : k < 12 := by omega
    have ek : (z_i k).toInt.toNat = k := z_iin (by omega)
    have hI := z_isInN (X := X) hk12
    have hc1 : z_cn X (k + 1) = z_cn X k + (if X.testBit k then 1 else 0) := rfl
    obtain ⟨r1, r2, r3, r4⟩ := id hR
    rw [r_X2_readRow_21]
    by_cases t : X.testBit k = true
    · rw [if_pos t] at hc1
      have hl := z_cn_lt hk12 t
      rw [if_pos (fun m => by rw [hI.mp m] at t; cases t), hat U _ r1 hl, show z_cn X 12 - z_cn X k = (z_cn X 12 - z_cn X (k + 1)) + 1 by omega, r_X12_fair_57, hby V _ r2 hl, show z_i (z_cn X k) + Int32.ofInt 1 = z_i (z_cn X (k + 1)) by rw [hc1]; exact z_i1 _, show z_cn X k + 1 = z_cn X (k + 1) by omega]
      have wk := hW _ hl
      by_cases q : W (z_cn X k) = Int32.ofInt 255
      · rw [if_neg (not_not_intro q), if_neg (not_not_intro q)]
        refine ih (k + 1) U V (by omega) ⟨r1, r2, r3, fun g hg => ⟨fun m => ?_, fun m => (r4 g hg).2 (by omega)⟩⟩
        by_cases e : g = k
        · have e97 := (r4 g hg).2 (by omega)
          rw [e] at e97 ⊢
          rw [if_pos q]
          exact ⟨e97, Or.inl e97⟩
        · exact (r4 g hg).1 ⟨by omega, m.2⟩
      · rw [if_pos q, if_pos q]
        have n0 : ¬ W (z_cn X k) < 0 := by
          rw [z_ltI2, show (0 : Int32).toInt = 0 from rfl]
          omega
        rw [if_neg n0]
        by_cases q5 : Int32.ofInt 5 ≤ W (z_cn X k)
        · rw [if_pos q5, if_pos q5]
          exact ⟨U, V, Or.inr ⟨rfl, rfl⟩⟩
        · rw [if_neg q5, if_neg q5]
          rw [z_leI2, show (Int32.ofInt 5).toInt = 5 from rfl] at q5
          obtain ⟨m, hm, em⟩ : ∃ m, m < 5 ∧ W (z_cn X k) = z_i m := ⟨(W (z_cn X k)).toInt.toNat, by omega, (z_ofN wk.1).symm⟩
          have emn : (z_i m).toInt.toNat = m := z_iin (by omega)
          have hIM := z_isInN (X := M) (g := m) (by omega)
          have ho := t3 m hm
          rw [hMe, z_bitN (by omega)] at ho
          rw [em, emn, r1 94 0 (by omega) (by omega), r2 162 m (by omega), hMe]
          by_cases q6 : V0 162 m = 0
          · have t2' : M.testBit m = false := by
              have : ¬ M.testBit m = true := fun z => ho.mp z q6
              simpa using this
            rw [if_pos (hIM.mpr t2'), if_pos q6]
            exact ⟨U, V, Or.inr ⟨rfl, rfl⟩⟩
          · have t2' : M.testBit m = true := ho.mpr q6
            rw [if_neg (fun z => by rw [hIM.mp z] at t2'; cases t2'), if_neg q6, ← (r3 m hm).1]
            by_cases q7 : U 98 m = Int32.ofInt (-1)
            · rw [if_pos q7, if_pos q7, ek, r2 152 _ (by omega), z_iin (show z_cn X k < 2147483648 by have := z_cn_lt hk12 t; have := z_cn12 X; omega), h152 k hk12 t]
              refine ih (k + 1) _ _ (by omega) ⟨fun a j h1 h2 => by rw [z_sn (by omega), z_sn (by omega)]; exact r1 a j h1 h2, fun a j h1 => by rw [z_sn (by omega)]; exact r2 a j h1, fun h hh => ?_, fun g hg => ⟨fun mm => ?_, fun mm => ?_⟩⟩
              · by_cases e : h = m
                · rw [e, z_ss, z_ss]
                  exact ⟨rfl, Or.inr ⟨k, hk12, t, rfl⟩⟩
                · rw [z_sn (by omega), z_sn (by omega), z_sn (by omega)]
                  exact r3 h hh
              · by_cases e : g = k
                · rw [e, z_sn (by omega), z_ss, if_neg q, em]
                  exact ⟨rfl, Or.inr ⟨m, hm, rfl⟩⟩
                · rw [z_sn (by omega), z_sn (by omega)]
                  exact (r4 g hg).1 ⟨by omega, mm.2⟩
              · rw [z_sn (by omega), z_sn (by omega)]
                exact (r4 g hg).2 (by omega)
            · rw [if_neg q7, if_neg q7]
              exact ⟨U, V, Or.inr ⟨rfl, rfl⟩⟩
    · have t2 : X.testBit k = false := by simpa using t
      rw [if_neg t] at hc1
      rw [if_neg (not_not_intro (hI.mpr t2)), show z_cn X k = z_cn X (k + 1) by omega]
      refine ih (k + 1) U V (by omega) ⟨r1, r2, r3, fun g hg => ⟨fun m => ?_, fun m => (r4 g hg).2 (by omega)⟩⟩
      by_cases e : g = k
      · rw [e] at m
        exact absurd m.2 t
      · exact (r4 g hg).1 ⟨by omega, m.2⟩
theorem z_env_in {X : Nat} {U V : v_Sf} (h : z_HF U V) {k : Nat} (hk : k < 12) (tk : X.testBit k = true) (hst : ∀ g, g < 12 → X.testBit g = true → ¬ V 116 g = 0) (h98 : ∀ m, m < 5 → U 98 m = V 165 m ∧ (U 98 m = Int32.ofInt (-1) ∨ ∃ g, g < 12 ∧ X.testBit g = true ∧ U 98 m = z_i g)) {own : Int32} (how : U 97 k = own) (ho : own = Int32.ofInt (-1) ∨ ∃ m, m < 5 ∧ own = z_i m) (h152 : V 152 (z_cn X k) = z_i k) (hcn : z_cn X k < 12) (x2 : Int32) (κ : Int32 → Int32) (κ' : Int32 → v_Sf → Int32 × v_Sf) (hκ : ∀ x, κ x = (κ' x V).1) : ∀ (r m : Nat) (x : Int32), m + r = 5 → r_X2_envious_15 (z_i X) U κ k r m x = (r_X12_fair_167 x2 κ' (z_cn X k) r m x own V).1 := by
  have ek : (z_i k).toInt.toNat = k := z_iin (by omega)
  have ec : (z_i (z_cn X k)).toInt.toNat = z_cn X k := z_iin (by omega)
  have hI := z_isInN (X := X) hk
  obtain ⟨⟨t1, t2⟩, t3⟩ := h.2.2.2.1
  obtain ⟨M, hM, hMe⟩ : ∃ M, M < 32 ∧ U 94 0 = z_i M := ⟨(U 94 0).toInt.toNat, by omega, (z_ofN t1).symm⟩
  intro r
  induction r with
  | zero =>
    intro m x _
    rw [r_X2_envious_15, r_X12_fair_167]
    exact hκ x
  | succ r ih =>
    intro m x hm
    have em : (z_i m).toInt.toNat = m := z_iin (by omega)
    have hIM := z_isInN (X := M) (g := m) (by omega)
    have hoM := t3 m (by omega)
    rw [hMe, z_bitN (by omega)] at hoM
    have ih2 := fun x => ih (m + 1) x (by omega)
    rw [r_X2_envious_15, r_X12_fair_167, if_neg (fun z => by rw [hI.mp z] at tk; cases tk), ek, em, ec, how, hMe, h152, ← (h98 m (by omega)).1]
    by_cases q1 : V 162 m = 0
    · have t2' : M.testBit m = false := by
        have : ¬ M.testBit m = true := fun z => hoM.mp z q1
        simpa using this
      rw [if_pos (hIM.mpr t2'), if_pos q1]
      exact ih2 x
    · have t2' : M.testBit m = true := hoM.mpr q1
      rw [if_neg (fun z => by rw [hIM.mp z] at t2'; cases t2'), if_neg q1]
      by_cases q2 : own = z_i m
      · rw [if_pos q2, if_pos q2.symm]
        exact ih2 x
      · rw [if_neg q2, if_neg (show ¬ z_i m = own from fun z => q2 z.symm), z_higherE h (show m < 5 by omega) ho]
        by_cases q3 : f_X12_isHigher (z_i m) own V = 0
        · rw [if_pos q3, if_pos q3]
          exact ih2 x
        · rw [if_neg q3, if_neg q3, z_dearE h (by omega) hk (hst k hk tk) ((h98 m (by omega)).2.imp id (fun ⟨g, g1, g2, g3⟩ => ⟨g, g1, hst g g1 g2, g3⟩))]
          by_cases q4 : f_X12_isLiked (z_i m) (z_i k) (U 98 m) V = 0
          · rw [if_pos q4, if_pos q4]
            exact ih2 x
          · rw [if_neg q4, if_neg q4]
            exact ih2 _
theorem z_env_no {X : Nat} {U : v_Sf} {k : Nat} (hk : k < 12) (tk : X.testBit k = false) (κ : Int32 → Int32) : ∀ (r m : Nat) (x : Int32), r_X2_envious_15 (z_i X) U κ k r m x = κ x := by
  have hI := z_isInN (X := X) hk
  intro r
  induction r with
  | zero => intro m x; rw [r_X2_envious_15]
  | succ r ih =>
    intro m x
    rw [r_X2_envious_15, if_pos (hI.mpr tk)]
    exact ih _ _
theorem z_env_l {X : Nat} {U V : v_Sf} {W : Nat → Int32} (h : z_HF U V) (hX : X < 4096) (h6 : z_cn X 12 ≤ 6) (hst : ∀ g, g < 12 → X.testBit g = true → ¬ V 116 g = 0) (h98 : ∀ m, m < 5 → U 98 m = V 165 m ∧ (U 98 m = Int32.ofInt (-1) ∨ ∃ g, g < 12 ∧ X.testBit g = true ∧ U 98 m = z_i g)) (h97 : ∀ g, g < 12 → X.testBit g = true → U 97 g = (if W (z_cn X g) = Int32.ofInt 255 then Int32.ofInt (-1) else W (z_cn X g)) ∧ (U 97 g = Int32.ofInt (-1) ∨ ∃ m, m < 5 ∧ U 97 g = z_i m)) (hby : ∀ m, m < z_cn X 12 → f_X12_byteAt (z_i m) V = W m) (h152 : ∀ j, j < 12 → X.testBit j = true → V 152 (z_cn X j) = z_i j) : ∀ (r k : Nat) (x : Int32), k + r = 12 → r_X2_envious_5 (z_i X) U r k x = (r_X12_fair_134 (z_i (z_cn X 12)) (z_cn X 12 - z_cn X k) (z_cn X k) x V).1 := by
  intro r
  induction r with
  | zero =>
    intro k x hk
    obtain rfl : k = 12 := by omega
    rw [Nat.sub_self, r_X2_envious_5, r_X12_fair_134]
  | succ r ih =>
    intro k x hk
    have hk12 : k < 12 := by omega
    have hc1 : z_cn X (k + 1) = z_cn X k + (if X.testBit k then 1 else 0) := rfl
    rw [r_X2_envious_5, show 5 - 0 = 5 from rfl]
    by_cases t : X.testBit k = true
    · rw [if_pos t] at hc1
      have hl := z_cn_lt hk12 t
      obtain ⟨e1, e2⟩ := h97 k hk12 t
      rw [show z_cn X 12 - z_cn X k = (z_cn X 12 - z_cn X (k + 1)) + 1 by omega, r_X12_fair_134, hby _ hl, show z_cn X k + 1 = z_cn X (k + 1) by omega, show 5 - 0 = 5 from rfl]
      have key := fun own (he : U 97 k = own) (ho : own = Int32.ofInt (-1) ∨ ∃ m, m < 5 ∧ own = z_i m) => z_env_in h hk12 t hst h98 he ho (h152 k hk12 t) (by omega) (z_i (z_cn X 12)) (fun v0 => r_X2_envious_5 (z_i X) U r (k + 1) v0) (fun v0 S => r_X12_fair_134 (z_i (z_cn X 12)) (z_cn X 12 - z_cn X (k + 1)) (z_cn X (k + 1)) v0 S) (fun x => ih (k + 1) x (by omega)) 5 0 x (by omega)
      by_cases q : W (z_cn X k) = Int32.ofInt 255
      · rw [if_pos q] at e1
        rw [if_neg (not_not_intro q)]
        exact key _ e1 (Or.inl rfl)
      · rw [if_neg q] at e1
        rw [if_pos q]
        exact key _ e1 (by rw [← e1]; exact e2)
    · have t2 : X.testBit k = false := by simpa using t
      rw [if_neg t] at hc1
      rw [z_env_no hk12 t2, show z_cn X k = z_cn X (k + 1) by omega]
      exact ih (k + 1) x (by omega)
theorem z_f97 (v : Int32) (S : v_Sf) : ∀ j, j < 12 → g_fill97 v S 97 j = v := by
  have lp : ∀ (r k : Nat) (S : v_Sf), k + r = 12 → (∀ j, j < k → S 97 j = v) → ∀ j, j < 12 → r_fill97_5 v (Int32.ofNat 12) r k S 97 j = v := by
    intro r
    induction r with
    | zero => intro k S hk h j hj; exact h j (by omega)
    | succ r ih =>
      intro k S hk h j hj
      rw [r_fill97_5]
      refine ih (k + 1) _ (by omega) (fun i hi => ?_) j hj
      rw [z_iin (by omega)]
      by_cases e : i = k
      · rw [e, z_ss]
      · rw [z_sn (by omega)]
        exact h i (by omega)
  exact lp 12 0 S (by omega) (fun j hj => absurd hj (Nat.not_lt_zero j))
theorem z_f98 (v : Int32) (S : v_Sf) : ∀ j, j < 5 → g_fill98 v S 98 j = v := by
  have lp : ∀ (r k : Nat) (S : v_Sf), k + r = 5 → (∀ j, j < k → S 98 j = v) → ∀ j, j < 5 → r_fill98_5 v (Int32.ofNat 5) r k S 98 j = v := by
    intro r
    induction r with
    | zero => intro k S hk h j hj; exact h j (by omega)
    | succ r ih =>
      intro k S hk h j hj
      rw [r_fill98_5]
      refine ih (k + 1) _ (by omega) (fun i hi => ?_) j hj
      rw [z_iin (by omega)]
      by_cases e : i = k
      · rw [e, z_ss]
      · rw [z_sn (by omega)]
        exact h i (by omega)
  exact lp 5 0 S (by omega) (fun j hj => absurd hj (Nat.not_lt_zero j))
theorem z_f37b (x2 : Int32) : ∀ (r k : Nat) (S : v_Sf), k + r = 5 → (∀ j, j < k → S 165 j = Int32.ofInt (-1)) → ∃ V, r_X12_fair_37 x2 r k S = r_X12_fair_57 x2 x2.toInt.toNat 0 V ∧ (∀ j, j < 5 → V 165 j = Int32.ofInt (-1)) ∧ ∀ a j, a ≠ 165 → V a j = S a j := by
  intro r
  induction r with
  | zero =>
    intro k S hk h
    exact ⟨S, by rw [r_X12_fair_37, Nat.sub_zero], fun j hj => h j (by omega), fun a j _ => rfl⟩
  | succ r ih =>
    intro k S hk h
    rw [r_X12_fair_37, z_iin (by omega)]
    obtain ⟨V, v1, v2, v3⟩ := ih (k + 1) (z_s S 165 k (Int32.ofInt (-1))) (by omega) (fun j hj => by
      by_cases e : j = k
      · rw [e, z_ss]
      · rw [z_sn (by omega)]
        exact h j (by omega))
    exact ⟨V, v1, v2, fun a j q => by rw [v3 a j q, z_sn (by omega)]⟩
theorem z_fair_ans {c b : Nat} {S T : v_Sf} (h : z_Rel c b S T) (a : Int32) : f_X11_fair a S = f_X12_fair a T := by
  obtain ⟨⟨nc, hB⟩, hP, hT, hK, hO, h17, h25⟩ := id h
  obtain ⟨e, k⟩ := z_chosen hB.1.1 a (lo := Int32.ofInt 1) (hi := Int32.ofInt 6) (by decide)
  unfold f_X11_fair f_X12_fair F_X12_fair
  rw [← e]
  by_cases q : f_X11_chosen a (Int32.ofInt 1) (Int32.ofInt 6) S = 0
  · rw [if_pos q, if_pos q]
  · obtain ⟨X, hX, rfl, l1, l2, ht⟩ := k q
    have l2 : z_cn X 12 ≤ 6 := by
      have : (Int32.ofInt 6).toInt = 6 := rfl
      omega
    have ep : f_X12_sizeOf (z_i X) = f_J6_bitCount_0f7a4 (z_i X) := (z_bc12 (x := z_i X) (by rw [z_it3 (by omega)]; omega)).symm
    rw [if_neg q, if_neg q, ep, hT.2.1, z_bcN hX]
    by_cases q2 : z_i (z_cn X 12) ≤ T 99 1
    · rw [if_pos q2, if_pos q2]
      obtain ⟨Y, y1, -, y3, y4⟩ := z_tks (X := X) 12 0 T (by omega)
      have gT : g_X12_takesSome (z_i X) T = Y := by
        unfold g_X12_takesSome F_X12_takesSome
        rw [show 12 - 0 = 12 from rfl]
        exact congrArg Prod.snd y1
      have fT : f_X12_takesSome (z_i X) T = z_i (z_cn X 12) := by
        unfold f_X12_takesSome F_X12_takesSome
        rw [show 12 - 0 = 12 from rfl]
        exact congrArg Prod.fst y1
      rw [gT, fT, show 5 - 0 = 5 from rfl]
      obtain ⟨V, v1, v2, v3⟩ := z_f37b (z_i (z_cn X 12)) 5 0 (z_s Y 99 1 (Int32.ofInt 0)) (by omega) (fun j hj => absurd hj (Nat.not_lt_zero j))
      rw [v1, z_iin (by omega)]
      have fV : ∀ a j, a ≠ 165 → a ≠ 152 → ¬ (a = 99 ∧ j = 1) → V a j = T a j := fun a j h1 h2 h3 => by rw [v3 a j h1, z_sn h3, y4 a j h2]
      rw [z_leI2, z_it3 (by omega)] at q2
      have hat : ∀ (U : v_Sf) (m : Nat), (∀ a j, a ≠ 97 → a ≠ 98 → U a j = (g_fill98 (Int32.ofInt (-1)) (g_fill97 (Int32.ofInt (-1)) S)) a j) → m < z_cn X 12 → f_X8_at (z_i m) U = S 46 m := fun U m hU hm => by
        have e45 : U 45 1 = T 99 1 := by rw [hU 45 1 (by decide) (by decide), z_fill98 _ _ _ _ (by decide), z_fill97 _ _ _ _ (by decide), hT.2.1]
        have e46 : U 46 m = S 46 m := by rw [hU 46 m (by decide) (by decide), z_fill98 _ _ _ _ (by decide), z_fill97 _ _ _ _ (by decide)]
        unfold f_X8_at
        rw [if_neg (by rw [show (0 : Int32) = z_i 0 from rfl, z_ilt (by omega) (by omega)]; omega), if_neg (by rw [e45, z_leI2, z_it3 (by omega)]; omega), z_iin (by omega), e46]
      have hby : ∀ (V' : v_Sf) (m : Nat), (∀ a j, a ≠ 165 → V' a j = V a j) → m < z_cn X 12 → f_X12_byteAt (z_i m) V' = S 46 m := fun V' m hV hm => by
        unfold f_X12_byteAt
        rw [z_iin (by omega), hV 100 m (by decide), fV 100 m (by decide) (by decide) (by omega)]
        exact (hT.1 m (by omega)).1.symm
      have hW : ∀ m, m < z_cn X 12 → 0 ≤ (S 46 m).toInt ∧ (S 46 m).toInt ≤ 255 := fun m hm => z_by_T hT m (by omega)
      have h5 : z_told 5 (2 ^ 5 - 1 : Nat) ((g_fill98 (Int32.ofInt (-1)) (g_fill97 (Int32.ofInt (-1)) S)) 94 0) (V 162) := by
        rw [z_fill98 _ _ _ _ (by decide), z_fill97 _ _ _ _ (by decide), show V 162 = T 162 from funext fun j => fV _ _ (by decide) (by decide) (by omega)]
        exact hO.2.2.2.2.2.1
      have h152 : ∀ j, j < 12 → X.testBit j = true → V 152 (z_cn X j) = z_i j := fun j hj tj => by
        rw [v3 152 _ (by decide), z_sn (by omega)]
        exact y3 j (by omega) hj tj
      have R0 : z_RW X 0 (S 46) (g_fill98 (Int32.ofInt (-1)) (g_fill97 (Int32.ofInt (-1)) S)) V (g_fill98 (Int32.ofInt (-1)) (g_fill97 (Int32.ofInt (-1)) S)) V := by
        refine ⟨fun a j _ _ => rfl, fun a j _ => rfl, fun m hm => ?_, fun g hg => ⟨fun m => absurd m.1 (Nat.not_lt_zero g), fun _ => ?_⟩⟩
        · rw [z_f98 _ _ m hm, v2 m hm]
          exact ⟨rfl, Or.inl rfl⟩
        · rw [z_fill98 _ _ _ _ (by decide)]
          exact z_f97 _ _ g hg
      unfold f_X2_readRow g_X2_readRow F_X2_readRow
      rw [show 12 - 0 = 12 from rfl]
      rcases z_row_l hX l2 hat hby hW h5 h152 12 0 _ _ (by omega) R0 with ⟨U', V', ⟨hR, w1, w2⟩ | ⟨w1, w2⟩⟩
      · have w1' : r_X2_readRow_21 (z_i X) 12 0 (Int32.ofInt 0) (g_fill98 (Int32.ofInt (-1)) (g_fill97 (Int32.ofInt (-1)) S)) = (Int32.ofInt 1, U') := w1
        have w2' : r_X12_fair_57 (z_i (z_cn X 12)) (z_cn X 12) 0 V = r_X12_fair_134 (z_i (z_cn X 12)) (z_cn X 12) 0 (Int32.ofInt 0) V' := w2
        obtain ⟨r1, r2, r3, r4⟩ := hR
        rw [w1', w2', if_neg (show ¬ (Int32.ofInt 1, U').1 = 0 from show ¬ Int32.ofInt 1 = 0 by decide)]
        unfold f_X2_envious F_X2_envious g_X8_empty
        rw [show 12 - 0 = 12 from rfl]
        have fU : ∀ a j, a ≠ 97 → a ≠ 98 → ¬ (a = 45 ∧ j = 1) → z_s U' 45 1 (Int32.ofInt 0) a j = S a j := fun a j h1 h2 h3 => by rw [z_sn h3, r1 a j h1 h2, z_fill98 _ _ _ _ h2, z_fill97 _ _ _ _ h1]
        have fV2 : ∀ a j, a ≠ 165 → a ≠ 152 → ¬ (a = 99 ∧ j = 1) → V' a j = T a j := fun a j h1 h2 h3 => by rw [r2 a j h1, fV a j h1 h2 h3]
        have rU : ∀ a, a ≠ 97 → a ≠ 98 → a ≠ 45 → z_s U' 45 1 (Int32.ofInt 0) a = S a := fun a h1 h2 h3 => funext fun j => fU a j h1 h2 (by omega)
        have rV : ∀ a, a ≠ 165 → a ≠ 152 → a ≠ 99 → V' a = T a := fun a h1 h2 h3 => funext fun j => fV2 a j h1 h2 (by omega)
        obtain ⟨a1, a2, a3, a4, a5, a6, a7, -⟩ := id hB.1
        have hf : z_HF (z_s U' 45 1 (Int32.ofInt 0)) V' := by
          refine ⟨?_, ?_, ?_, ?_, ?_, ?_⟩
          · rw [fU 1 0 (by decide) (by decide) (by omega), rV 116 (by decide) (by decide) (by decide)]
            exact a1
          · rw [rU 2 (by decide) (by decide) (by decide), rV 117 (by decide) (by decide) (by decide)]
            exact a2
          · rw [rU 7 (by decide) (by decide) (by decide), rV 122 (by decide) (by decide) (by decide)]
            exact a7
          · rw [fU 94 0 (by decide) (by decide) (by omega), rV 162 (by decide) (by decide) (by decide)]
            exact hO.2.2.2.2.2.1
          · rw [rU 95 (by decide) (by decide) (by decide), rV 163 (by decide) (by decide) (by decide)]
            exact hO.2.2.2.2.2.2.1
          · rw [rU 96 (by decide) (by decide) (by decide), rV 164 (by decide) (by decide) (by decide)]
            exact hO.2.2.2.2.2.2.2
        have := z_env_l (W := S 46) hf hX l2 (fun g hg tg => by rw [rV 116 (by decide) (by decide) (by decide)]; exact ht g hg tg) (fun m hm => by rw [z_sn (by omega)]; exact r3 m hm) (fun g hg tg => by rw [z_sn (by omega)]; exact (r4 g hg).1 ⟨hg, tg⟩) (fun m hm => hby V' m r2 hm) (fun j hj tj => by rw [r2 152 _ (by decide)]; exact h152 j hj tj) 12 0 (Int32.ofInt 0) (by omega)
        exact this
      · have w1' : r_X2_readRow_21 (z_i X) 12 0 (Int32.ofInt 0) (g_fill98 (Int32.ofInt (-1)) (g_fill97 (Int32.ofInt (-1)) S)) = (Int32.ofInt 0, U') := w1
        have w2' : r_X12_fair_57 (z_i (z_cn X 12)) (z_cn X 12) 0 V = (Int32.ofInt (-2), V') := w2
        rw [w1', w2', if_pos (show (Int32.ofInt 0, U').1 = 0 from rfl)]
    · rw [if_neg q2, if_neg q2]
section CA_fair
variable {L : Nat} {xs : Nat → Int32} {S : v_Sf} {R : v_Rf} {Q : Option Value → v_Sf → v_Rf → Prop}
theorem a_X11_fair (v1 : Int32) (hT : v_Tb v_ty S R) (hO : v_Op S) (hK : z_K S R) (hq : ∀ S' R', v_Tb v_ty S' R' → v_Op S' → z_P S' R' (g_X12_fair v1 S') → Q (some (.int (f_X12_fair v1 S'))) S' R') : w_T L xs 59 m_X11_fair 0 (lv_args 0 [.ref 1, .int v1]) [] S R Q := by
  obtain ⟨c, b, e, hr, hR⟩ := id hK
  obtain ⟨hc, hb, he, hn, hL, hB, hE, hW⟩ := id hr
  refine z_use (v_met 60 140 rw_167 (List.mem_of_getElem? (i := 0) rfl) (Nat.le_of_ble_eq_true rfl)) (Nat.le_of_ble_eq_true rfl) mt_X11_fair ⟨rfl, ⟨_, rfl, (q_rng _).1, (q_rng _).2⟩, trivial⟩ hT hO (fun n d => c_X11_fair L xs n d v1 S R) (fun r S1 R1 S2 R2 hT1 hO1 hr1 hF ee q => ?_)
  have hS1 := z_K_T hc hb hR hF rfl
  obtain ⟨v, hv, hRR, hf, hg⟩ := q
  have k1 := z_fair_ans hS1 v1
  have k2 := z_fair_rel hc hb hS1 v1
  rw [hg] at k2
  rw [← hv, ← hf, k1]
  exact hq S1 R1 hT1 hO1 (z_K_c (z_Kr_f hr (fun a j q => (hF a j (z_md_K rfl q)).2)) ee k2)
end CA_fair
