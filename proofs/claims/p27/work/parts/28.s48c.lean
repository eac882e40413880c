/-! fair: the answers -/
theorem z_subJ {a b : Int32} (ha : -1000000 ≤ a.toInt ∧ a.toInt ≤ 1000000) (hb : -1000000 ≤ b.toInt ∧ b.toInt ≤ 1000000) : (a - b).toInt = a.toInt - b.toInt := by
  rw [← q_of a, ← q_of b, ← Int32.ofInt_sub, q_of, q_of]
  exact q_ofr (by omega) (by omega)
/-- what houses and gusts are asked by -/
noncomputable def z_HF (U V : v_Sf) : Prop := z_told 12 4095 (U 1 0) (V 116) ∧ z_co 12 (U 2) (V 117) 0 99 ∧ z_co 12 (U 7) (V 122) 0 1023 ∧ z_told 5 (2 ^ 5 - 1 : Nat) (U 94 0) (V 162) ∧ z_co 5 (U 95) (V 163) 0 99 ∧ z_co 5 (U 96) (V 164) 0 1023
theorem z_higherE {U V : v_Sf} (h : z_HF U V) {k : Nat} (hk : k < 5) {o : Int32} (ho : o = Int32.ofInt (-1) ∨ ∃ m, m < 5 ∧ o = z_i m) : f_X2_higher (z_i k) o U = f_X12_isHigher (z_i k) o V := by
  obtain ⟨h1, h2, h3, h4, h5, h6⟩ := h
  have ek : (z_i k).toInt.toNat = k := z_iin (by omega)
  have k0 : ¬ z_i k < 0 := by
    rw [show (0 : Int32) = z_i 0 from rfl, z_ilt (by omega) (by omega)]
    omega
  unfold f_X2_higher f_X12_isHigher
  rw [if_neg k0, ek]
  rcases ho with rfl | ⟨m, hm, rfl⟩
  · rw [if_pos (by decide), if_neg (by decide), if_pos rfl]
  · have em : (z_i m).toInt.toNat = m := z_iin (by omega)
    rw [if_neg (by rw [show (0 : Int32) = z_i 0 from rfl, z_ilt (by omega) (by omega)]; omega), if_neg (by rw [show Int32.ofInt 5 = z_i 5 from rfl, z_ile (by omega) (by omega)]; omega), if_pos (by rw [show Int32.ofInt 5 = z_i 5 from rfl, z_ilt (by omega) (by omega)]; omega), if_neg (z_nm1 (by omega)), em, (h5 k hk).1, (h5 m hm).1]
theorem z_bcS {x : Int32} (h : 0 ≤ x.toInt ∧ x.toInt ≤ 1023) : f_X12_sizeOf x = f_J6_bitCount_0f7a4 x ∧ 0 ≤ (f_J6_bitCount_0f7a4 x).toInt ∧ (f_J6_bitCount_0f7a4 x).toInt ≤ 12 := by
  obtain ⟨X, hX, rfl⟩ : ∃ X, X < 1024 ∧ x = z_i X := ⟨x.toInt.toNat, by omega, (z_ofN h.1).symm⟩
  have e := z_bcN (X := X) (by omega)
  have hc := z_cn12 X
  refine ⟨(z_bc h).symm, ?_, ?_⟩
  · rw [e, z_it3 (by omega)]
    omega
  · rw [e, z_it3 (by omega)]
    omega
theorem z_dearE {U V : v_Sf} (h : z_HF U V) {k g : Nat} (hk : k < 5) (hg : g < 12) (tg : ¬ V 116 g = 0) {o : Int32} (ho : o = Int32.ofInt (-1) ∨ ∃ m, m < 12 ∧ ¬ V 116 m = 0 ∧ o = z_i m) : f_X2_dearer (z_i k) (z_i g) o U = f_X12_isLiked (z_i k) (z_i g) o V := by
  obtain ⟨h1, h2, h3, h4, h5, h6⟩ := h
  have ek : (z_i k).toInt.toNat = k := z_iin (by omega)
  have eg : (z_i g).toInt.toNat = g := z_iin (by omega)
  have k0 : ¬ z_i k < 0 := by
    rw [show (0 : Int32) = z_i 0 from rfl, z_ilt (by omega) (by omega)]
    omega
  have k5 : ¬ Int32.ofInt 5 ≤ z_i k := by
    rw [show Int32.ofInt 5 = z_i 5 from rfl, z_ile (by omega) (by omega)]
    omega
  have hhas : ∀ m, m < 12 → ((f_X7_hasGust 1 (z_i m) U = 0) ↔ V 116 m = 0) := fun m hm => by
    rw [z_hasG U hm, h1.2 m hm]
    exact Classical.not_not
  unfold f_X2_dearer f_X12_isLiked
  rw [if_neg k0, if_neg k5, if_neg (fun m => tg ((hhas g hg).mp m)), ek, eg]
  rcases ho with rfl | ⟨m, hm, tm, rfl⟩
  · have n1 : f_X7_hasGust 1 (Int32.ofInt (-1)) U = 0 := by
      unfold f_X7_hasGust
      rw [if_pos (by decide)]
      rfl
    rw [if_neg (not_not_intro n1), if_neg (by decide), if_neg (not_not_intro rfl)]
  · have em : (z_i m).toInt.toNat = m := z_iin (by omega)
    have w6 := h6 k hk
    have wg := h3 g hg
    have wm := h3 m hm
    have a1 := z_andR (h := V 122 g) (m := V 164 k) wg.2
    have a2 := z_andR (h := V 122 m) (m := V 164 k) wm.2
    obtain ⟨b1, b2, b3⟩ := z_bcS a1
    obtain ⟨c1, c2, c3⟩ := z_bcS a2
    have s1 := h2 g hg
    have s2 := h2 m hm
    rw [if_pos (fun q => tm ((hhas m hm).mp q)), if_pos (z_nm1 (by omega)), em, wg.1, wm.1, w6.1, s1.1, s2.1, b1, c1]
    generalize f_J6_bitCount_0f7a4 (V 122 g &&& V 164 k) = A at *
    generalize f_J6_bitCount_0f7a4 (V 122 m &&& V 164 k) = B at *
    have d1 := z_subJ (a := A) (b := B) (by omega) (by omega)
    have d2 := z_subJ (a := V 117 g) (b := V 117 m) (by omega) (by omega)
    have e0 : (0 : Int32).toInt = 0 := rfl
    by_cases q : A = B
    · have q0 : A - B = 0 := z_inj2 (by rw [d1, q, e0]; omega)
      rw [if_pos q0, if_pos q]
      by_cases r : V 117 g = V 117 m
      · have r0 : V 117 g - V 117 m = 0 := z_inj2 (by rw [d2, r, e0]; omega)
        rw [if_neg (by rw [r0]; decide), if_neg (not_not_intro r0), if_pos r]
      · have r0 : ¬ V 117 g - V 117 m = 0 := fun z => r (z_inj2 (by have := congrArg Int32.toInt z; rw [d2, e0] at this; omega))
        rw [if_neg r]
        by_cases l : V 117 g ≤ V 117 m
        · rw [if_neg (by rw [z_ltI2, d2, e0]; rw [z_leI2] at l; omega), if_pos r0, if_pos l]
        · rw [if_pos (by rw [z_ltI2, d2, e0]; rw [z_leI2] at l; omega), if_neg l]
    · have q0 : ¬ A - B = 0 := fun z => q (z_inj2 (by have := congrArg Int32.toInt z; rw [d1, e0] at this; omega))
      rw [if_neg q0, if_neg q]
      by_cases l : A ≤ B
      · rw [if_pos (by rw [z_leI2, d1, e0]; rw [z_leI2] at l; omega), if_pos l]
      · rw [if_neg (by rw [z_leI2, d1, e0]; rw [z_leI2] at l; omega), if_neg l]
section CA_fair
variable {L : Nat} {xs : Nat → Int32} {S : v_Sf} {R : v_Rf} {Q : Option Value → v_Sf → v_Rf → Prop}
end CA_fair
