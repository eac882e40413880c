/-! who quarrels with whom: it does not hang on the order, nor on what is reckoned in between -/
theorem z_angT {c nc : Nat} (hc : z_cd c) {S T T1 : v_Sf} (h : z_Bs c 1 nc S T) (h1 : z_Bs c 1 nc S T1) {g j : Nat} (hg : g < 12) (hj : j < 12) (ht : ¬ T 116 g = 0) (hu : ¬ T 116 j = 0) (ht1 : ¬ T1 116 g = 0) (hu1 : ¬ T1 116 j = 0) : f_X12_isAngry (z_i g) (z_i j) T1 = f_X12_isAngry (z_i g) (z_i j) T := (z_angryB hc (Or.inl rfl) h1 hg hj ht1 hu1).1.symm.trans (z_angryB hc (Or.inl rfl) h hg hj ht hu).1
theorem z_quE {c nc : Nat} (hc : z_cd c) {S T : v_Sf} (h : z_Bs c 1 nc S T) {g j : Nat} (hg : g < 12) (hj : j < 12) (ht : ¬ T 116 g = 0) (hu : ¬ T 116 j = 0) : (f_X12_doQuarrel (z_i g) (z_i j) T = 0) ↔ (f_X12_isAngry (z_i g) (z_i j) T = 0 ∧ f_X12_isAngry (z_i j) (z_i g) T = 0) := by
  obtain ⟨a1, a2, a3, a4, a5⟩ := z_angryB hc (Or.inl rfl) h hg hj ht hu
  have hB : z_Bs c 1 nc S (g_X12_isAngry (z_i g) (z_i j) T) := z_Bs_f h (fun a q => rfl) (fun j q => rfl) (fun a j q => by rw [a5 a j (by omega) (by omega) (by omega)])
  have e := z_angT hc h hB hj hg hu ht (by rw [a5 116 j (by omega) (by omega) (by omega)]; exact hu) (by rw [a5 116 g (by omega) (by omega) (by omega)]; exact ht)
  have o01 := (z_angryB hc (Or.inl rfl) h hj hg hu ht).2.2.1
  unfold f_X12_doQuarrel
  rw [e]
  by_cases q : f_X12_isAngry (z_i g) (z_i j) T = 0
  · rw [if_neg (not_not_intro q)]
    rcases o01 with r | r
    · rw [r]
      exact ⟨fun _ => ⟨q, rfl⟩, fun _ => by decide⟩
    · rw [r]
      exact ⟨fun m => absurd m (by decide), fun m => absurd m.2 (by decide)⟩
  · rw [if_pos q]
    exact ⟨fun m => absurd m (by decide), fun m => absurd m.1 q⟩
theorem z_quS {c nc : Nat} (hc : z_cd c) {S T : v_Sf} (h : z_Bs c 1 nc S T) {g j : Nat} (hg : g < 12) (hj : j < 12) (ht : ¬ T 116 g = 0) (hu : ¬ T 116 j = 0) : (f_X12_doQuarrel (z_i g) (z_i j) T = 0) ↔ (f_X12_doQuarrel (z_i j) (z_i g) T = 0) := by
  rw [z_quE hc h hg hj ht hu, z_quE hc h hj hg hu ht]
  exact And.comm
theorem z_quT {c nc : Nat} (hc : z_cd c) {S T T1 : v_Sf} (h : z_Bs c 1 nc S T) (h1 : z_Bs c 1 nc S T1) {g j : Nat} (hg : g < 12) (hj : j < 12) (ht : ¬ T 116 g = 0) (hu : ¬ T 116 j = 0) (ht1 : ¬ T1 116 g = 0) (hu1 : ¬ T1 116 j = 0) : f_X12_doQuarrel (z_i g) (z_i j) T1 = f_X12_doQuarrel (z_i g) (z_i j) T := (z_oddsB hc (Or.inl rfl) h1 hg hj ht1 hu1).1.symm.trans (z_oddsB hc (Or.inl rfl) h hg hj ht hu).1
/-! the class's table of who quarrels with whom -/
noncomputable def z_pr (n : Nat) (od : Nat → Nat → Prop) (i k a b : Nat) : Prop := (a < n ∧ b < n ∧ a ≠ b ∧ od a b) ∧ (min a b < i ∨ min a b = i ∧ max a b < k)
noncomputable def z_At (n : Nat) (P : Nat → Nat → Prop) (U : v_Sf) : Prop := ∀ a, a < n → ∃ A, A < 256 ∧ U 79 a = z_i A ∧ ∀ b, b < 12 → (A.testBit b = true ↔ P a b)
theorem z_ior8 {a k : Nat} (ha : a < 256) (hk : k < 8) : z_i a ||| (Int32.ofInt 1 <<< (z_i k &&& 31)) = z_i (a ||| 2 ^ k) ∧ a ||| 2 ^ k < 256 := by
  have h1 : (Int32.ofInt 1 <<< (z_i k &&& 31)).toBitVec.toNat = 2 ^ k := z_one_n ⟨k, by omega⟩
  have h2 : a ||| 2 ^ k < 2 ^ 8 := Nat.or_lt_two_pow ha (Nat.pow_lt_pow_right (by decide) hk)
  refine ⟨?_, h2⟩
  refine Int32.toBitVec_inj.mp (BitVec.eq_of_toNat_eq ?_)
  rw [Int32.toBitVec_or, BitVec.toNat_or, h1, z_ibv, z_ibv, BitVec.toNat_ofNat, BitVec.toNat_ofNat, Nat.mod_eq_of_lt (by omega), Nat.mod_eq_of_lt (by omega)]
section LO
variable {c n : Nat} {od : Nat → Nat → Prop} {S0 : v_Sf}
theorem z_lo28 (hc : z_cd c) (h8 : n ≤ 8) (h764 : S0 76 4 = z_i n) (hs : ∀ a b, od a b → od b a) (hq : ∀ U, (∀ a j, a ≠ 51 → a ≠ c + 3 → a ≠ 79 → U a j = S0 a j) → ∀ i j, i < n → j < n → i ≠ j → (f_X3_atOdds c 1 (S0 77 i) (S0 77 j) U = 0 ↔ ¬ od i j) ∧ ∀ a, a ≠ 51 → a ≠ c + 3 → g_X3_atOdds c 1 (S0 77 i) (S0 77 j) U a = U a) {i : Nat} (hi : i < n) (κ : v_Sf → v_Sf) : ∀ (q k : Nat) (U : v_Sf), k + q = n → i < k → (∀ a j, a ≠ 51 → a ≠ c + 3 → a ≠ 79 → U a j = S0 a j) → z_At n (z_pr n od i k) U → ∃ U', r_X4_learnOdds_28 c κ i (8 - k) k U = κ U' ∧ (∀ a j, a ≠ 51 → a ≠ c + 3 → a ≠ 79 → U' a j = S0 a j) ∧ z_At n (z_pr n od i n) U' := by
  have hcn := z_cdl hc
  have ei : (z_i i).toInt.toNat = i := z_iin (by omega)
  intro q
  induction q with
  | zero =>
    intro k U hk hik h1 h2
    obtain rfl : k = n := by omega
    refine ⟨U, ?_, h1, h2⟩
    cases e : 8 - k with
    | zero => rw [r_X4_learnOdds_28]
    | succ m => rw [r_X4_learnOdds_28, h1 76 4 (by omega) (by omega) (by omega), h764, if_pos (by rw [z_ile (by omega) (by omega)]; omega)]
  | succ q ih =>
    intro k U hk hik h1 h2
    have ek : (z_i k).toInt.toNat = k := z_iin (by omega)
    obtain ⟨f1, f2⟩ := hq U h1 i k hi (by omega) (by omega)
    have st : ∀ a b, ¬ (a = i ∧ b = k ∨ a = k ∧ b = i) → (z_pr n od i (k + 1) a b ↔ z_pr n od i k a b) := fun a b hab => by
      unfold z_pr
      refine and_congr_right (fun m => ?_)
      constructor
      · rintro (h | ⟨h, h'⟩)
        · exact Or.inl h
        · refine Or.inr ⟨h, ?_⟩
          omega
      · rintro (h | ⟨h, h'⟩)
        · exact Or.inl h
        · exact Or.inr ⟨h, by omega⟩
    have nw : ∀ a b, (a = i ∧ b = k ∨ a = k ∧ b = i) → (z_pr n od i (k + 1) a b ↔ od i k) ∧ ¬ z_pr n od i k a b := fun a b hab => by
      unfold z_pr
      rcases hab with ⟨rfl, rfl⟩ | ⟨rfl, rfl⟩
      · exact ⟨⟨fun m => m.1.2.2.2, fun m => ⟨⟨hi, by omega, by omega, m⟩, Or.inr ⟨by omega, by omega⟩⟩⟩, fun m => by omega⟩
      · exact ⟨⟨fun m => hs _ _ m.1.2.2.2, fun m => ⟨⟨by omega, hi, by omega, hs _ _ m⟩, Or.inr ⟨by omega, by omega⟩⟩⟩, fun m => by omega⟩
    rw [show 8 - k = (7 - k) + 1 by omega, r_X4_learnOdds_28, h1 76 4 (by omega) (by omega) (by omega), h764, if_neg (by rw [z_ile (by omega) (by omega)]; omega), if_neg (by rw [show Int32.ofInt 8 = z_i 8 from rfl, z_ile (by omega) (by omega)]; omega), ei, ek, h1 77 i (by omega) (by omega) (by omega), h1 77 k (by omega) (by omega) (by omega), show 7 - k = 8 - (k + 1) by omega]
    generalize hG : g_X3_atOdds c 1 (S0 77 i) (S0 77 k) U = G at f2 ⊢
    have hGf : ∀ a j, a ≠ 51 → a ≠ c + 3 → a ≠ 79 → G a j = S0 a j := fun a j m1 m2 m3 => by rw [f2 a m1 m2]; exact h1 a j m1 m2 m3
    have G79 : G 79 = U 79 := f2 79 (by omega) (by omega)
    by_cases o : od i k
    · rw [if_neg (fun m => f1.mp m o)]
      obtain ⟨Ai, ai1, ai2, ai3⟩ := h2 i hi
      obtain ⟨Ak, ak1, ak2, ak3⟩ := h2 k (by omega)
      obtain ⟨e1, e1'⟩ := z_ior8 ai1 (show k < 8 by omega)
      obtain ⟨e2, e2'⟩ := z_ior8 ak1 (show i < 8 by omega)
      have w2 : (z_s G 79 i (G 79 i ||| (Int32.ofInt 1 <<< (z_i k &&& 31)))) 79 k = z_i Ak := by rw [z_sn (by omega), G79, ak2]
      rw [w2, G79, ai2, e1, e2]
      refine ih (k + 1) _ (by omega) (by omega) (fun a j m1 m2 m3 => by rw [z_sn (by omega), z_sn (by omega)]; exact hGf a j m1 m2 m3) (fun a ha => ?_)
      by_cases a1 : a = k
      · refine ⟨Ak ||| 2 ^ i, e2', by rw [a1, z_ss], fun b hb => ?_⟩
        rw [Nat.testBit_or, Bool.or_eq_true, ak3 b hb, Nat.testBit_two_pow, decide_eq_true_iff, a1]
        by_cases b1 : b = i
        · rw [(nw k b (Or.inr ⟨rfl, b1⟩)).1]
          exact ⟨fun _ => o, fun _ => Or.inr b1.symm⟩
        · rw [st k b (by omega)]
          exact ⟨fun m => m.elim id (fun z => absurd z.symm b1), Or.inl⟩
      · by_cases a2 : a = i
        · refine ⟨Ai ||| 2 ^ k, e1', by rw [a2, z_sn (by omega), z_ss], fun b hb => ?_⟩
          rw [Nat.testBit_or, Bool.or_eq_true, ai3 b hb, Nat.testBit_two_pow, decide_eq_true_iff, a2]
          by_cases b1 : b = k
          · rw [(nw i b (Or.inl ⟨rfl, b1⟩)).1]
            exact ⟨fun _ => o, fun _ => Or.inr b1.symm⟩
          · rw [st i b (by omega)]
            exact ⟨fun m => m.elim id (fun z => absurd z.symm b1), Or.inl⟩
        · obtain ⟨A, q1, q2, q3⟩ := h2 a ha
          refine ⟨A, q1, by rw [z_sn (by omega), z_sn (by omega), G79]; exact q2, fun b hb => ?_⟩
          rw [q3 b hb, st a b (by omega)]
    · rw [if_pos (f1.mpr o)]
      refine ih (k + 1) G (by omega) (by omega) hGf (fun a ha => ?_)
      obtain ⟨A, q1, q2, q3⟩ := h2 a ha
      refine ⟨A, q1, by rw [G79]; exact q2, fun b hb => ?_⟩
      rw [q3 b hb]
      by_cases ab : a = i ∧ b = k ∨ a = k ∧ b = i
      · obtain ⟨n1, n2⟩ := nw a b ab
        exact ⟨fun m => absurd m n2, fun m => absurd (n1.mp m) o⟩
      · exact (st a b ab).symm
theorem z_lo10 (hc : z_cd c) (h8 : n ≤ 8) (h764 : S0 76 4 = z_i n) (hs : ∀ a b, od a b → od b a) (hq : ∀ U, (∀ a j, a ≠ 51 → a ≠ c + 3 → a ≠ 79 → U a j = S0 a j) → ∀ i j, i < n → j < n → i ≠ j → (f_X3_atOdds c 1 (S0 77 i) (S0 77 j) U = 0 ↔ ¬ od i j) ∧ ∀ a, a ≠ 51 → a ≠ c + 3 → g_X3_atOdds c 1 (S0 77 i) (S0 77 j) U a = U a) : ∀ (q i : Nat) (U : v_Sf), i + q = n → (∀ a j, a ≠ 51 → a ≠ c + 3 → a ≠ 79 → U a j = S0 a j) → z_At n (z_pr n od i (i + 1)) U → (∀ a j, a ≠ 51 → a ≠ c + 3 → a ≠ 79 → r_X4_learnOdds_10 c (8 - i) i U a j = S0 a j) ∧ z_At n (fun a b => a < n ∧ b < n ∧ a ≠ b ∧ od a b) (r_X4_learnOdds_10 c (8 - i) i U) := by
  have hcn := z_cdl hc
  intro q
  induction q with
  | zero =>
    intro i U hi h1 h2
    obtain rfl : i = n := by omega
    have e : r_X4_learnOdds_10 c (8 - i) i U = U := by
      cases e : 8 - i with
      | zero => rw [r_X4_learnOdds_10]
      | succ m => rw [r_X4_learnOdds_10, h1 76 4 (by omega) (by omega) (by omega), h764, if_pos (by rw [z_ile (by omega) (by omega)]; omega)]
    rw [e]
    refine ⟨h1, fun a ha => ?_⟩
    obtain ⟨A, q1, q2, q3⟩ := h2 a ha
    refine ⟨A, q1, q2, fun b hb => ?_⟩
    rw [q3 b hb]
    unfold z_pr
    exact ⟨fun m => m.1, fun m => ⟨m, Or.inl (by omega)⟩⟩
  | succ q ih =>
    intro i U hi h1 h2
    rw [show 8 - i = (7 - i) + 1 by omega, r_X4_learnOdds_10, h1 76 4 (by omega) (by omega) (by omega), h764, if_neg (by rw [z_ile (by omega) (by omega)]; omega), if_neg (by rw [show Int32.ofInt 8 = z_i 8 from rfl, z_ile (by omega) (by omega)]; omega)]
    obtain ⟨U', u1, u2, u3⟩ := z_lo28 hc h8 h764 hs hq (i := i) (by omega) (fun S => r_X4_learnOdds_10 c (7 - i) (i + 1) S) (n - (i + 1)) (i + 1) U (by omega) (by omega) h1 h2
    rw [u1, show 7 - i = 8 - (i + 1) by omega]
    refine ih (i + 1) U' (by omega) u2 (fun a ha => ?_)
    obtain ⟨A, q1, q2, q3⟩ := u3 a ha
    refine ⟨A, q1, q2, fun b hb => ?_⟩
    rw [q3 b hb]
    unfold z_pr
    refine and_congr_right (fun m => ?_)
    constructor
    · intro _
      omega
    · intro _
      omega
end LO
theorem z_fill79 (v : Int32) (S : v_Sf) : (∀ j, j < 8 → g_fill79 v S 79 j = v) ∧ ∀ a j, a ≠ 79 → g_fill79 v S a j = S a j := by
  have lp : ∀ (r k : Nat) (S : v_Sf), k + r = 8 → (∀ j, j < k → S 79 j = v) → (∀ j, j < 8 → r_fill79_5 v (Int32.ofNat 8) r k S 79 j = v) ∧ ∀ a j, a ≠ 79 → r_fill79_5 v (Int32.ofNat 8) r k S a j = S a j := by
    intro r
    induction r with
    | zero => intro k S hk h; exact ⟨fun j hj => h j (by omega), fun a j _ => rfl⟩
    | succ r ih =>
      intro k S hk h
      rw [r_fill79_5, z_iin (by omega)]
      obtain ⟨i1, i2⟩ := ih (k + 1) (z_s S 79 k v) (by omega) (fun j hj => by
        by_cases e : j = k
        · rw [e, z_ss]
        · rw [z_sn (by omega)]
          exact h j (by omega))
      exact ⟨i1, fun a j q => by rw [i2 a j q, z_sn (by omega)]⟩
  exact lp 8 0 S (by omega) (fun j hj => absurd hj (Nat.not_lt_zero j))
