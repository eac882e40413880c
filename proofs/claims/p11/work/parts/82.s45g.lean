/-! leaving, letGo: the calls -/
theorem z_Rel_fr {c b : Nat} (hc : z_cd c) (hb : z_cd b) {S T S' T' : v_Sf} (h : z_Rel c b S T) (f : ∀ a j, (a ≤ 20 ∨ a = 31 ∨ 33 ≤ a ∧ a ≤ 46 ∨ a = 48 ∨ c ≤ a ∧ a ≤ c + 6 ∧ a ≠ c + 3 ∨ a = b ∧ j = 7 ∨ a = 86 ∧ j = 0 ∨ a = 87 ∨ a = 88 ∨ a = 94 ∧ j = 0 ∨ a = 95 ∨ a = 96) → S' a j = S a j) (g : ∀ a j, (a = 99 ∧ (j = 1 ∨ j = 2 ∨ j = 16 ∨ j = 17 ∨ j = 25 ∨ 60 ≤ j ∧ j ≤ 62 ∨ j = 92) ∨ 100 ≤ a ∧ a ≤ 106 ∨ 116 ≤ a ∧ a ≤ 132 ∨ 137 ≤ a ∧ a ≤ 151 ∨ 156 ≤ a ∧ a ≤ 160 ∨ 162 ≤ a ∧ a ≤ 164) → T' a j = T a j) : z_Rel c b S' T' := by
  have hcn := z_cdl hc
  have hbn := z_cdl hb
  obtain ⟨⟨nc, hB⟩, hP, hT, _⟩ := id h
  exact z_Rel_f h ⟨nc, z_Bs_f hB (fun a q => funext fun j => f a j (by omega)) (fun j q => f _ _ (by omega)) (fun a j q => g a j (by omega))⟩ (z_PX_f hP (funext fun j => f _ _ (by omega)) (f _ _ (by omega)) (funext fun j => g _ _ (by omega)) (funext fun j => g _ _ (by omega)) (g _ _ (by omega))) (z_Tp_f hT (funext fun j => f _ _ (by omega)) (f _ _ (by omega)) (funext fun j => g _ _ (by omega)) (g _ _ (by omega))) (fun a j q => f a j (by omega)) (fun a j q => g a j (by omega))
theorem z_sm_all : ∀ g : Fin 31, (((z_i g.val &&& 31).toBitVec).smod 32).toNat = g.val := by decide +kernel
theorem z_shr31 (b : Int32) {g : Nat} (hg : g < 31) : (b >>> (z_i g &&& 31)).toBitVec = b.toBitVec.sshiftRight g := by
  have e : (((z_i g &&& 31).toBitVec).smod 32).toNat = g := z_sm_all ⟨g, hg⟩
  rw [Int32.toBitVec_shiftRight, BitVec.sshiftRight_eq', e]
theorem z_isIn31 {X g : Nat} (hg : g < 31) : (f_X11_isIn (z_i X) (z_i g) = 0) ↔ X.testBit g = false := by
  have h : (((z_i X) >>> (z_i g &&& 31)) &&& (Int32.ofInt 1) = 0) ↔ X.testBit g = false := by
    rw [z_lsb0, z_shr31 _ hg, BitVec.getLsbD_sshiftRight, z_ibv, BitVec.getLsbD_ofNat]
    simp [show g < 32 by omega]
  unfold f_X11_isIn
  rw [if_neg (by rw [show (0 : Int32) = z_i 0 from rfl, z_ilt (by omega) (by omega)]; omega), if_neg (by rw [show Int32.ofInt 31 = z_i 31 from rfl, z_ile (by omega) (by omega)]; omega)]
  by_cases q : ((z_i X) >>> (z_i g &&& 31)) &&& (Int32.ofInt 1) = 0
  · rw [if_pos q]
    exact ⟨fun _ => h.mp q, fun _ => rfl⟩
  · rw [if_neg q]
    exact ⟨fun m => absurd m (by decide), fun m => absurd (h.mpr m) q⟩
theorem z_isInO {X : Nat} (hX : X < 4096) {x : Int32} (h : ¬ (0 ≤ x.toInt ∧ x.toInt ≤ 11)) : f_X11_isIn (z_i X) x = 0 := by
  by_cases q : 0 ≤ x.toInt ∧ x.toInt < 31
  · obtain ⟨k, hk, rfl⟩ : ∃ k, k < 31 ∧ x = z_i k := ⟨x.toInt.toNat, by omega, (z_ofN q.1).symm⟩
    rw [z_isIn31 hk]
    rw [z_it3 (by omega)] at h
    refine Nat.testBit_lt_two_pow ?_
    have : 2 ^ 12 ≤ 2 ^ k := Nat.pow_le_pow_right (by decide) (by omega)
    omega
  · have e0 : (0 : Int32).toInt = 0 := rfl
    have e31 : (Int32.ofInt 31).toInt = 31 := rfl
    unfold f_X11_isIn
    by_cases q1 : x < 0
    · rw [if_pos q1]
      rfl
    · rw [z_ltI2] at q1
      rw [if_neg (by rw [z_ltI2]; exact q1), if_pos (by rw [z_leI2]; omega)]
      rfl
theorem z_windOf {X g : Nat} (hX : X < 4096) (h6 : z_cn X 12 ≤ 6) (hg : g < 12) (ht : X.testBit g = true) (U : v_Sf) : f_X10_windOf (z_i X) (z_i g) U = U 93 (z_cn X g) := by
  have hI := z_isInN (X := X) hg
  have hl := z_cn_lt hg ht
  unfold f_X10_windOf
  rw [if_pos (fun m => by rw [hI.mp m] at ht; cases ht), z_plc hX hg, if_neg (by rw [show Int32.ofInt 6 = z_i 6 from rfl, z_ile (by omega) (by omega)]; omega), z_iin (by omega)]
theorem z_leaving_ok {c b : Nat} (hc : z_cd c) (hb : z_cd b) {S T : v_Sf} (h : z_Rel c b S T) (a x : Int32) : f_X11_leaving a x S = f_X12_leaving a x T ∧ z_Rel c b (g_X11_leaving a x S) (g_X12_leaving a x T) := by
  have hcn := z_cdl hc
  have hbn := z_cdl hb
  obtain ⟨e, k⟩ := z_chosen h.1.choose_spec.1.1 a (lo := Int32.ofInt 1) (hi := Int32.ofInt 6) (by decide)
  unfold f_X11_leaving g_X11_leaving f_X12_leaving g_X12_leaving
  rw [← e]
  by_cases q : f_X11_chosen a (Int32.ofInt 1) (Int32.ofInt 6) S = 0
  · simp only [if_pos q]
    exact ⟨trivial, h⟩
  · obtain ⟨X, hX, rfl, l1, l2, ht⟩ := k q
    have l1 : 1 ≤ z_cn X 12 := by
      have : (Int32.ofInt 1).toInt = 1 := rfl
      omega
    have l2 : z_cn X 12 ≤ 6 := by
      have : (Int32.ofInt 6).toInt = 6 := rfl
      omega
    obtain ⟨S', T', s1, s2, s3, s4, s5, s6, s7, s8, s9⟩ := z_send_ok h hX l1 l2 ht
    have R : z_Rel c b S' T' := z_Rel_fr hc hb h (fun a j m => s8 a j (by omega)) (fun a j m => s9 a j (by omega))
    rw [s2, s3, s1]
    simp only [if_neg q]
    by_cases q20 : x = Int32.ofInt 20
    · simp only [if_pos q20]
      exact ⟨s4, R⟩
    · simp only [if_neg q20]
      by_cases q21 : x = Int32.ofInt 21
      · simp only [if_pos q21]
        exact ⟨s5, R⟩
      · simp only [if_neg q21]
        by_cases r : 0 ≤ x.toInt ∧ x.toInt ≤ 11
        · obtain ⟨g, hg, rfl⟩ : ∃ g, g < 12 ∧ x = z_i g := ⟨x.toInt.toNat, by omega, (z_ofN r.1).symm⟩
          simp only [if_neg (fun m => z_in0.mp m r)]
          have hI := z_isInN (X := X) hg
          have hH := z_hasN0 (X := X) hg
          by_cases t : X.testBit g = true
          · have i1 : ¬ f_X11_isIn (z_i X) (z_i g) = 0 := fun m => by rw [hI.mp m] at t; cases t
            have i2 : ¬ f_X12_has (z_i X) (z_i g) = 0 := fun m => by rw [hH.mp m] at t; cases t
            have hl := z_cn_lt hg t
            simp only [if_pos i1, if_pos i2]
            rw [z_windOf hX l2 hg t, z_plcM hX hg, z_iin (by omega)]
            exact ⟨s6 _ hl, R⟩
          · have t2 : X.testBit g = false := by simpa using t
            simp only [if_neg (not_not_intro (hI.mpr t2)), if_neg (not_not_intro (hH.mpr t2))]
            exact ⟨trivial, h⟩
        · simp only [if_pos (z_in0.mpr r), if_neg (not_not_intro (z_isInO hX r))]
          exact ⟨trivial, h⟩
theorem z_told_andn {b Y : Int32} {I I' : Nat → Int32} {P : Nat → Prop} (h : z_told 12 4095 b I) (hY : ∀ i, i < 12 → (Y.toBitVec.getLsbD i = true ↔ P i)) (h1 : ∀ g, g < 12 → P g → I' g = 0) (h2 : ∀ g, g < 12 → ¬ P g → I' g = I g) : z_told 12 4095 (b &&& (Y ^^^ Int32.ofInt (-1))) I' := by
  obtain ⟨hb, hI⟩ := h
  have hbn := z_toN hb.1
  have le : (b &&& (Y ^^^ Int32.ofInt (-1))).toBitVec.toNat ≤ b.toBitVec.toNat := by
    rw [Int32.toBitVec_and, BitVec.toNat_and]
    exact Nat.and_le_left
  have hz := z_ofT (x := b &&& (Y ^^^ Int32.ofInt (-1))) (by omega)
  refine ⟨⟨by omega, by omega⟩, fun g hg => ?_⟩
  have m1 : (Int32.ofInt (-1)).toBitVec.getLsbD g = true := z_m1_all ⟨g, by omega⟩
  have e := hI g hg
  rw [z_bitL _ hg] at e ⊢
  rw [Int32.toBitVec_and, Int32.toBitVec_xor, BitVec.getLsbD_and, BitVec.getLsbD_xor, m1]
  by_cases q : P g
  · rw [h1 g hg q, (hY g hg).mpr q]
    simp
  · have n1 : ¬ Y.toBitVec.getLsbD g = true := fun m => q ((hY g hg).mp m)
    rw [h2 g hg q, ← e]
    simp [n1]
theorem z_lgl {X : Nat} (hX : X < 4096) (h6 : z_cn X 12 ≤ 6) {S T : v_Sf} (h93 : ∀ j, j < z_cn X 12 → S 93 j = T 155 j) (h152 : ∀ j, j < 12 → X.testBit j = true → T 152 (z_cn X j) = z_i j) : ∀ (r k : Nat) (x : Int32) (U : v_Sf), k + r = 12 → (∀ i, i < 12 → (x.toBitVec.getLsbD i = true ↔ i < k ∧ X.testBit i = true ∧ ¬ S 93 (z_cn X i) = Int32.ofInt 4)) → (∀ a j, a ≠ 116 → U a j = T a j) → (∀ j, j < 12 → (j < k ∧ X.testBit j = true ∧ ¬ S 93 (z_cn X j) = Int32.ofInt 4) → U 116 j = 0) → (∀ j, j < 12 → ¬ (j < k ∧ X.testBit j = true ∧ ¬ S 93 (z_cn X j) = Int32.ofInt 4) → U 116 j = T 116 j) → ∃ Y W, r_X11_letGo_29 (z_i X) r k x S = (Y, z_s S 1 0 ((S 1 0) &&& (Y ^^^ (Int32.ofInt (-1))))) ∧ r_X12_letGo_29 (z_i (z_cn X 12)) (z_cn X 12 - z_cn X k) (z_cn X k) x U = (Y, W) ∧ (∀ i, i < 12 → (Y.toBitVec.getLsbD i = true ↔ X.testBit i = true ∧ ¬ S 93 (z_cn X i) = Int32.ofInt 4)) ∧ (∀ a j, a ≠ 116 → W a j = T a j) ∧ (∀ j, j < 12 → (X.testBit j = true ∧ ¬ S 93 (z_cn X j) = Int32.ofInt 4) → W 116 j = 0) ∧ (∀ j, j < 12 → ¬ (X.testBit j = true ∧ ¬ S 93 (z_cn X j) = Int32.ofInt 4) → W 116 j = T 116 j) := by
  intro r
  induction r with
  | zero =>
    intro k x U hk hx u1 u2 u3
    obtain rfl : k = 12 := by omega
    refine ⟨x, U, by rw [r_X11_letGo_29], ?_, fun i hi => ?_, u1, fun j hj q => u2 j hj ⟨hj, q⟩, fun j hj q => u3 j hj (fun m => q m.2)⟩
    · rw [Nat.sub_self, r_X12_letGo_29]
    · rw [hx i hi]
      exact ⟨fun m => m.2, fun m => ⟨hi, m⟩⟩
  | succ r ih =>
    intro k x U hk hx u1 u2 u3
    have hk12 : k < 12 := by omega
    have hI := z_isInN (X := X) hk12
    have hc1 : z_cn X (k + 1) = z_cn X k + (if X.testBit k then 1 else 0) := rfl
    have ek : (z_i k).toInt.toNat = k := z_iin (by omega)
    rw [r_X11_letGo_29]
    by_cases t : X.testBit k = true
    · rw [if_pos t] at hc1
      have hl := z_cn_lt hk12 t
      have ec : (z_i (z_cn X k)).toInt.toNat = z_cn X k := z_iin (by omega)
      rw [if_neg (fun m => by rw [hI.mp m] at t; cases t), z_windOf hX h6 hk12 t, show z_cn X 12 - z_cn X k = (z_cn X 12 - z_cn X (k + 1)) + 1 by omega, r_X12_letGo_29, ec, u1 155 _ (by omega), u1 152 _ (by omega), h152 k hk12 t, ← h93 _ hl, ek]
      by_cases q : S 93 (z_cn X k) = Int32.ofInt 4
      · rw [if_pos q, if_neg (not_not_intro q), show z_cn X k + 1 = z_cn X (k + 1) by omega]
        refine ih (k + 1) x U (by omega) (fun i hi => ?_) u1 (fun j hj m => ?_) (fun j hj m => ?_)
        · rw [hx i hi]
          constructor
          · rintro ⟨m1, m2⟩
            exact ⟨by omega, m2⟩
          · rintro ⟨m1, m2⟩
            by_cases e : i = k
            · rw [e] at m2
              exact absurd q m2.2
            · exact ⟨by omega, m2⟩
        · by_cases e : j = k
          · rw [e] at m
            exact absurd q m.2.2
          · exact u2 j hj ⟨by omega, m.2⟩
        · exact u3 j hj (fun n => m ⟨by omega, n.2⟩)
      · rw [if_neg q, if_pos q, show z_cn X k + 1 = z_cn X (k + 1) by omega, show u_nar 2 (Int32.ofInt 0) = 0 by decide]
        refine ih (k + 1) _ (z_s U 116 k 0) (by omega) (fun i hi => ?_) (fun a j m => by rw [z_sn (by omega)]; exact u1 a j m) (fun j hj m => ?_) (fun j hj m => ?_)
        · have o1 : (Int32.ofInt 1 <<< (z_i k &&& 31)).toBitVec.getLsbD i = decide (i = k) := z_one_all ⟨k, hk12⟩ ⟨i, hi⟩
          rw [Int32.toBitVec_or, BitVec.getLsbD_or, o1, Bool.or_eq_true, hx i hi, decide_eq_true_iff]
          constructor
          · rintro (⟨m1, m2⟩ | m1)
            · exact ⟨by omega, m2⟩
            · rw [m1]
              exact ⟨by omega, t, q⟩
          · rintro ⟨m1, m2⟩
            by_cases e : i = k
            · exact Or.inr e
            · exact Or.inl ⟨by omega, m2⟩
        · by_cases e : j = k
          · rw [e, z_ss]
          · rw [z_sn (by omega)]
            exact u2 j hj ⟨by omega, m.2⟩
        · by_cases e : j = k
          · rw [e] at m
            exact absurd ⟨by omega, t, q⟩ m
          · rw [z_sn (by omega)]
            exact u3 j hj (fun n => m ⟨by omega, n.2⟩)
    · have t2 : X.testBit k = false := by simpa using t
      rw [if_neg t] at hc1
      rw [if_pos (hI.mpr t2), show z_cn X k = z_cn X (k + 1) by omega]
      refine ih (k + 1) x U (by omega) (fun i hi => ?_) u1 (fun j hj m => ?_) (fun j hj m => ?_)
      · rw [hx i hi]
        constructor
        · rintro ⟨m1, m2⟩
          exact ⟨by omega, m2⟩
        · rintro ⟨m1, m2⟩
          by_cases e : i = k
          · rw [e] at m2
            exact absurd m2.1 t
          · exact ⟨by omega, m2⟩
      · by_cases e : j = k
        · rw [e] at m
          exact absurd m.2.1 t
        · exact u2 j hj ⟨by omega, m.2⟩
      · exact u3 j hj (fun n => m ⟨by omega, n.2⟩)
theorem z_letGo_ok {c b : Nat} (hc : z_cd c) (hb : z_cd b) {S T : v_Sf} (h : z_Rel c b S T) (a : Int32) : f_X11_letGo a S = f_X12_letGo a T ∧ z_Rel c b (g_X11_letGo a S) (g_X12_letGo a T) := by
  have hcn := z_cdl hc
  have hbn := z_cdl hb
  obtain ⟨e, k⟩ := z_chosen h.1.choose_spec.1.1 a (lo := Int32.ofInt 1) (hi := Int32.ofInt 6) (by decide)
  unfold f_X11_letGo g_X11_letGo f_X12_letGo g_X12_letGo F_X11_letGo F_X12_letGo
  rw [← e]
  by_cases q : f_X11_chosen a (Int32.ofInt 1) (Int32.ofInt 6) S = 0
  · rw [if_neg (not_not_intro q), if_neg (not_not_intro q)]
    exact ⟨rfl, h⟩
  · obtain ⟨X, hX, rfl, l1, l2, ht⟩ := k q
    have l1 : 1 ≤ z_cn X 12 := by
      have : (Int32.ofInt 1).toInt = 1 := rfl
      omega
    have l2 : z_cn X 12 ≤ 6 := by
      have : (Int32.ofInt 6).toInt = 6 := rfl
      omega
    obtain ⟨S', T', s1, s2, s3, s4, s5, s6, s7, s8, s9⟩ := z_send_ok h hX l1 l2 ht
    have R : z_Rel c b S' T' := z_Rel_fr hc hb h (fun a j m => s8 a j (by omega)) (fun a j m => s9 a j (by omega))
    rw [if_pos q, if_pos q, s2, s3, s1, z_iin (show z_cn X 12 < 2147483648 by omega), show 12 - 0 = 12 from rfl, Nat.sub_zero]
    obtain ⟨Y, W, y1, y2, y3, y4, y5, y6⟩ := z_lgl hX l2 s6 s7 12 0 (Int32.ofInt 0) T' (by omega) (fun i hi => by
      rw [show (Int32.ofInt 0).toBitVec = 0#32 from rfl]
      simp) (fun a j _ => rfl) (fun j hj m => absurd m.1 (Nat.not_lt_zero j)) (fun j _ _ => rfl)
    have y2' : r_X12_letGo_29 (z_i (z_cn X 12)) (z_cn X 12) 0 (Int32.ofInt 0) T' = (Y, W) := y2
    rw [y1, y2']
    refine ⟨rfl, ?_⟩
    show z_Rel c b (z_s S' 1 0 ((S' 1 0) &&& (Y ^^^ (Int32.ofInt (-1))))) W
    obtain ⟨a1, a2, a3, a4, a5, a6, a7, a8, a9, a10, a12, a13, a14⟩ := id R.1.choose_spec.1
    have rW : ∀ a, a ≠ 116 → W a = T' a := fun a m => funext fun j => y4 a j m
    refine z_Rel_st hc hb R ⟨?_, ?_, fun g hg m => ?_, ?_, ?_, ?_, ?_, ?_, ?_, ?_, ?_, ?_, ?_⟩ (fun a j m => z_sn (by omega)) (fun a j m => y4 a j (by omega))
    · rw [z_ss]
      exact z_told_andn a1 y3 y5 y6
    · rw [z_sr (by decide), rW 117 (by decide)]
      exact a2
    · have hm : ¬ T' 116 g = 0 := by
        intro m2
        refine m ?_
        by_cases e : X.testBit g = true ∧ ¬ S' 93 (z_cn X g) = Int32.ofInt 4
        · exact y5 g hg e
        · rw [y6 g hg e]
          exact m2
      rw [z_sr (show (1 + 2 : Nat) ≠ 1 by decide), rW 118 (by decide)]
      exact a3 g hg hm
    · rw [z_sr (by decide), rW 119 (by decide)]
      exact a4
    · rw [z_sr (by decide), rW 120 (by decide)]
      exact a5
    · rw [z_sr (by decide), rW 121 (by decide)]
      exact a6
    · rw [z_sr (by decide), rW 122 (by decide)]
      exact a7
    · rw [z_sn (by decide), rW 129 (by decide)]
      exact a8
    · rw [z_sr (by decide), rW 130 (by decide)]
      exact a9
    · rw [z_sr (by decide), rW 131 (by decide)]
      exact a10
    · rw [z_sn (by decide), rW 99 (by decide)]
      exact a12
    · rw [z_sn (by decide), rW 99 (by decide)]
      exact a13
    · rw [z_sn (by decide), rW 99 (by decide)]
      exact a14
