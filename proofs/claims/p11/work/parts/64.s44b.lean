/-! bits -/
theorem z_toN {x : Int32} (h : 0 ≤ x.toInt) : x.toBitVec.toNat = x.toInt.toNat := by
  have e := z_ofN h
  have e2 : x.toBitVec = BitVec.ofInt 32 ((x.toInt.toNat : Nat) : Int) := by
    conv => lhs; rw [← e]
    rfl
  rw [e2, BitVec.ofInt_natCast, BitVec.toNat_ofNat, Nat.mod_eq_of_lt]
  have := Int32.toInt_lt x
  omega
theorem z_ofT {x : Int32} (h : x.toBitVec.toNat < 2147483648) : x.toInt = (x.toBitVec.toNat : Int) := by
  have e : x = z_i x.toBitVec.toNat := by
    refine Int32.toBitVec_inj.mp (BitVec.eq_of_toNat_eq ?_)
    show _ = (BitVec.ofInt 32 ((x.toBitVec.toNat : Nat) : Int)).toNat
    rw [BitVec.ofInt_natCast, BitVec.toNat_ofNat, Nat.mod_eq_of_lt (by omega)]
  conv => lhs; rw [e]
  exact z_it3 h
theorem z_lsb0 (x : Int32) : (x &&& Int32.ofInt 1 = 0) ↔ x.toBitVec.getLsbD 0 = false := by
  have h : (x &&& Int32.ofInt 1).toBitVec.toNat = x.toBitVec.toNat % 2 := by
    rw [Int32.toBitVec_and, BitVec.toNat_and, show (Int32.ofInt 1).toBitVec.toNat = 1 from rfl, Nat.and_one_is_mod]
  have g : x.toBitVec.getLsbD 0 = decide (x.toBitVec.toNat % 2 = 1) := by
    rw [BitVec.getLsbD, Nat.testBit_zero]
  rw [g, decide_eq_false_iff_not]
  constructor
  · intro e
    rw [e] at h
    have h0 : (0 : Int32).toBitVec.toNat = 0 := rfl
    omega
  · intro e
    refine Int32.toBitVec_inj.mp (BitVec.eq_of_toNat_eq ?_)
    have h0 : (0 : Int32).toBitVec.toNat = 0 := rfl
    rw [h, h0]
    omega
theorem z_shr (b : Int32) {g : Nat} (hg : g < 12) : (b >>> (z_i g &&& 31)).toBitVec = b.toBitVec.sshiftRight g := by
  match g, hg with
  | 0, _ => rfl
  | 1, _ => rfl
  | 2, _ => rfl
  | 3, _ => rfl
  | 4, _ => rfl
  | 5, _ => rfl
  | 6, _ => rfl
  | 7, _ => rfl
  | 8, _ => rfl
  | 9, _ => rfl
  | 10, _ => rfl
  | 11, _ => rfl
theorem z_bitL (b : Int32) {g : Nat} (hg : g < 12) : z_bit b g ↔ b.toBitVec.getLsbD g = true := by
  unfold z_bit
  rw [z_lsb0, z_shr b hg, BitVec.getLsbD_sshiftRight]
  simp [show g < 32 by omega]
theorem z_one_all : ∀ g k : Fin 12, (Int32.ofInt 1 <<< (z_i g.val &&& 31)).toBitVec.getLsbD k.val = decide (k.val = g.val) := by decide +kernel
theorem z_one_n : ∀ g : Fin 12, (Int32.ofInt 1 <<< (z_i g.val &&& 31)).toBitVec.toNat = 2 ^ g.val := by decide +kernel
/-- one more is told -/
theorem z_told_or {n : Nat} {b : Int32} {T : v_Sf} {r i : Nat} (hn : n ≤ 12) (h : z_told n (2 ^ n - 1 : Nat) b (T r)) (hi : i < n) {v : Int32} (hv : ¬ v = 0) : z_told n (2 ^ n - 1 : Nat) (b ||| (Int32.ofInt 1 <<< (z_i i &&& 31))) (z_s T r i v r) := by
  obtain ⟨⟨h1, h2⟩, h3⟩ := h
  have hb := z_toN h1
  have h2n : 2 ^ n ≤ 2 ^ 12 := Nat.pow_le_pow_right (by decide) hn
  have hp : 1 ≤ 2 ^ n := Nat.one_le_two_pow
  have hlt : b.toBitVec.toNat < 2 ^ n := by
    rw [hb]
    omega
  have ho := z_one_n ⟨i, by omega⟩
  simp only at ho
  have hor : (b ||| (Int32.ofInt 1 <<< (z_i i &&& 31))).toBitVec.toNat < 2 ^ n := by
    rw [Int32.toBitVec_or, BitVec.toNat_or, ho]
    exact Nat.or_lt_two_pow hlt (Nat.pow_lt_pow_right (by decide) hi)
  have hI := z_ofT (x := b ||| (Int32.ofInt 1 <<< (z_i i &&& 31))) (by omega)
  refine ⟨⟨by omega, by omega⟩, fun g hg => ?_⟩
  rw [z_bitL _ (by omega), Int32.toBitVec_or, BitVec.getLsbD_or]
  have h1g := z_one_all ⟨i, by omega⟩ ⟨g, by omega⟩
  simp only at h1g
  rw [h1g]
  by_cases q : g = i
  · subst q
    rw [z_ss]
    simp [hv]
  · rw [z_sn (by omega), ← h3 g hg, z_bitL _ (by omega)]
    simp [q]
theorem z_within {x m : Int32} : (f_X11_within x m = 0) ↔ ¬ (0 ≤ x.toInt ∧ x.toInt ≤ m.toInt) := by
  have e0 : (0 : Int32).toInt = 0 := rfl
  unfold f_X11_within
  split
  · rename_i q
    have := z_ltI2.mp q
    exact ⟨fun _ => by omega, fun _ => by decide⟩
  · rename_i q
    have q' : ¬ x.toInt < (0 : Int32).toInt := fun n => q (z_ltI2.mpr n)
    split
    · rename_i r
      have := z_ltI2.mp r
      exact ⟨fun _ => by omega, fun _ => by decide⟩
    · rename_i r
      have r' : ¬ m.toInt < x.toInt := fun n => r (z_ltI2.mpr n)
      exact ⟨fun n => absurd n (by decide), fun n => absurd ⟨by omega, by omega⟩ n⟩
theorem z_in0 {x : Int32} {lo hi : Int} : (z_in x lo hi = 0) ↔ ¬ (lo ≤ x.toInt ∧ x.toInt ≤ hi) := by
  unfold z_in
  rw [z_pb0, decide_eq_false_iff_not]
/-! the relation of all -/
noncomputable def z_Tp (S T : v_Sf) : Prop := (∀ i, i < 260 → S 46 i = T 100 i &&& Int32.ofInt 255 ∧ -128 ≤ (T 100 i).toInt ∧ (T 100 i).toInt ≤ 127) ∧ S 45 1 = T 99 1 ∧ 0 ≤ (T 99 1).toInt ∧ (T 99 1).toInt ≤ 260
noncomputable def z_Ot (S T : v_Sf) : Prop := z_told 4 (2 ^ 4 - 1 : Nat) (S 86 0) (T 156) ∧ z_co 4 (S 87) (T 157) 0 7 ∧ z_co 4 (S 88) (T 158) 0 255 ∧ z_told 10 (2 ^ 10 - 1 : Nat) (S 0 13) (T 159) ∧ z_co 10 (S 31) (T 160) 0 1023 ∧ z_told 5 (2 ^ 5 - 1 : Nat) (S 94 0) (T 162) ∧ z_co 5 (S 95) (T 163) 0 99 ∧ z_co 5 (S 96) (T 164) 0 1023
/-- what is kept: State 11 against the second half of the reference's aside rows -/
noncomputable def z_Ks (S T : v_Sf) : Prop := z_told 12 4095 (S 11 0) (fun g => T 137 (12 + g)) ∧ z_co 12 (S 12) (fun g => T 138 (12 + g)) 0 99 ∧ (∀ g, g < 12 → ¬ T 137 (12 + g) = 0 → z_qr (S 13 g) (T 139 (12 + g))) ∧ z_co 12 (S 14) (fun g => T 140 (12 + g)) 0 9 ∧ z_co 12 (S 15) (fun g => T 141 (12 + g)) 0 5 ∧ z_co 12 (S 16) (fun g => T 142 (12 + g)) 0 9 ∧ z_co 12 (S 17) (fun g => T 143 (12 + g)) 0 1023 ∧ z_told 5 31 (S 11 7) (fun k => T 144 (5 + k)) ∧ z_co 5 (S 18) (fun k => T 145 (5 + k)) 0 9 ∧ z_co 5 (S 19) (fun k => T 146 (5 + k)) 0 10 ∧ z_co 6 (S 20) (fun w => T 147 (6 + w)) 0 47 ∧ (S 11 11 = T 148 1 ∧ 0 ≤ (T 148 1).toInt ∧ (T 148 1).toInt ≤ 9999) ∧ S 11 12 = T 149 1 ∧ S 11 13 = T 150 1 ∧ (S 11 14 = T 151 1 ∧ 0 ≤ (T 151 1).toInt ∧ (T 151 1).toInt ≤ 65535)
noncomputable def z_Kp (S T : v_Sf) : Prop := S 0 14 = T 99 92 ∧ (¬ T 99 92 = 0 → z_Ks S T)
noncomputable def z_Rel (c b : Nat) (S T : v_Sf) : Prop := (∃ nc, z_Bs c 1 nc S T) ∧ z_PX 1 S T ∧ z_Tp S T ∧ z_Kp S T ∧ z_Ot S T ∧ S b 7 = T 99 17 ∧ T 99 25 = 0
theorem z_Ks_f {S T S' T' : v_Sf} (h : z_Ks S T) (f : ∀ a j, 11 ≤ a ∧ a ≤ 20 → S' a j = S a j) (g : ∀ a j, 137 ≤ a ∧ a ≤ 151 ∧ 1 ≤ j → T' a j = T a j) : z_Ks S' T' := by
  have fr : ∀ a, 11 ≤ a ∧ a ≤ 20 → S' a = S a := fun a q => funext fun j => f a j q
  obtain ⟨a1, a2, a3, a4, a5, a6, a7, a8, a9, a10, a11, a12, a13, a14, a15⟩ := h
  refine ⟨?_, ?_, fun i hi q => ?_, ?_, ?_, ?_, ?_, ?_, ?_, ?_, ?_, ?_, ?_, ?_, ?_⟩
  · rw [fr 11 (by omega), show (fun i => T' 137 (12 + i)) = fun i => T 137 (12 + i) from funext fun i => g _ _ (by omega)]
    exact a1
  · rw [fr 12 (by omega), show (fun i => T' 138 (12 + i)) = fun i => T 138 (12 + i) from funext fun i => g _ _ (by omega)]
    exact a2
  · rw [g 137 _ (by omega)] at q
    rw [fr 13 (by omega), g 139 _ (by omega)]
    exact a3 i hi q
  · rw [fr 14 (by omega), show (fun i => T' 140 (12 + i)) = fun i => T 140 (12 + i) from funext fun i => g _ _ (by omega)]
    exact a4
  · rw [fr 15 (by omega), show (fun i => T' 141 (12 + i)) = fun i => T 141 (12 + i) from funext fun i => g _ _ (by omega)]
    exact a5
  · rw [fr 16 (by omega), show (fun i => T' 142 (12 + i)) = fun i => T 142 (12 + i) from funext fun i => g _ _ (by omega)]
    exact a6
  · rw [fr 17 (by omega), show (fun i => T' 143 (12 + i)) = fun i => T 143 (12 + i) from funext fun i => g _ _ (by omega)]
    exact a7
  · rw [fr 11 (by omega), show (fun i => T' 144 (5 + i)) = fun i => T 144 (5 + i) from funext fun i => g _ _ (by omega)]
    exact a8
  · rw [fr 18 (by omega), show (fun i => T' 145 (5 + i)) = fun i => T 145 (5 + i) from funext fun i => g _ _ (by omega)]
    exact a9
  · rw [fr 19 (by omega), show (fun i => T' 146 (5 + i)) = fun i => T 146 (5 + i) from funext fun i => g _ _ (by omega)]
    exact a10
  · rw [fr 20 (by omega), show (fun i => T' 147 (6 + i)) = fun i => T 147 (6 + i) from funext fun i => g _ _ (by omega)]
    exact a11
  · rw [fr 11 (by omega), g 148 1 (by omega)]
    exact a12
  · rw [fr 11 (by omega), g 149 1 (by omega)]
    exact a13
  · rw [fr 11 (by omega), g 150 1 (by omega)]
    exact a14
  · rw [fr 11 (by omega), g 151 1 (by omega)]
    exact a15
theorem z_Ot_f {S T S' T' : v_Sf} (h : z_Ot S T) (f : ∀ a j, (a = 86 ∧ j = 0 ∨ a = 87 ∨ a = 88 ∨ a = 0 ∧ j = 13 ∨ a = 31 ∨ a = 94 ∧ j = 0 ∨ a = 95 ∨ a = 96) → S' a j = S a j) (g : ∀ a j, (156 ≤ a ∧ a ≤ 160 ∨ 162 ≤ a ∧ a ≤ 164) → T' a j = T a j) : z_Ot S' T' := by
  have gr : ∀ a, (156 ≤ a ∧ a ≤ 160 ∨ 162 ≤ a ∧ a ≤ 164) → T' a = T a := fun a q => funext fun j => g a j q
  have fr : ∀ a, (a = 87 ∨ a = 88 ∨ a = 31 ∨ a = 95 ∨ a = 96) → S' a = S a := fun a q => funext fun j => f a j (by omega)
  unfold z_Ot
  rw [f 86 0 (by omega), fr 87 (by omega), fr 88 (by omega), f 0 13 (by omega), fr 31 (by omega), f 94 0 (by omega), fr 95 (by omega), fr 96 (by omega), gr 156 (by omega), gr 157 (by omega), gr 158 (by omega), gr 159 (by omega), gr 160 (by omega), gr 162 (by omega), gr 163 (by omega), gr 164 (by omega)]
  exact h
theorem z_Tp_f {S T S' T' : v_Sf} (h : z_Tp S T) (f1 : S' 46 = S 46) (f2 : S' 45 1 = S 45 1) (g1 : T' 100 = T 100) (g2 : T' 99 1 = T 99 1) : z_Tp S' T' := by
  unfold z_Tp
  rw [f1, f2, g1, g2]
  exact h
/-- the tape is empty -/
theorem z_Tp_0 {S T S' T' : v_Sf} (h : z_Tp S T) (f1 : S' 46 = S 46) (f2 : S' 45 1 = 0) (g1 : T' 100 = T 100) (g2 : T' 99 1 = 0) : z_Tp S' T' := by
  unfold z_Tp
  rw [f1, f2, g1, g2]
  exact ⟨h.1, rfl, by decide, by decide⟩
/-- all but the State's part as it was -/
theorem z_Rel_f {c b : Nat} {S T S' T' : v_Sf} (h : z_Rel c b S T) (hB : ∃ nc, z_Bs c 1 nc S' T') (hP : z_PX 1 S' T') (hT : z_Tp S' T') (f : ∀ a j, (11 ≤ a ∧ a ≤ 20 ∨ a = 86 ∧ j = 0 ∨ a = 87 ∨ a = 88 ∨ a = 0 ∨ a = 31 ∨ a = 94 ∧ j = 0 ∨ a = 95 ∨ a = 96 ∨ a = b ∧ j = 7) → S' a j = S a j) (g : ∀ a j, (a = 99 ∧ (j = 17 ∨ j = 25 ∨ j = 92) ∨ 137 ≤ a ∧ a ≤ 151 ∧ 1 ≤ j ∨ 156 ≤ a ∧ a ≤ 160 ∨ 162 ≤ a ∧ a ≤ 164) → T' a j = T a j) : z_Rel c b S' T' := by
  obtain ⟨h1, h2, h3, ⟨k1, k2⟩, h5, h6, h7⟩ := h
  refine ⟨hB, hP, hT, ⟨?_, fun q => ?_⟩, z_Ot_f h5 (fun a j q => f a j (by omega)) (fun a j q => g a j (by omega)), ?_, ?_⟩
  · rw [f 0 14 (by omega), g 99 92 (by omega)]
    exact k1
  · rw [g 99 92 (by omega)] at q
    exact z_Ks_f (k2 q) (fun a j q => f a j (by omega)) (fun a j q => g a j (by omega))
  · rw [f b 7 (by omega), g 99 17 (by omega)]
    exact h6
  · rw [g 99 25 (by omega)]
    exact h7
