/-! the state: what both sides hold alike -/
theorem z_sr {S : v_Sf} {a i : Nat} {v : Int32} {b : Nat} (h : b ≠ a) : z_s S a i v b = S b := by
  funext j
  exact z_sn (fun q => h q.1)
noncomputable def z_co (n : Nat) (A B : Nat → Int32) (lo hi : Int) : Prop := ∀ g, g < n → A g = B g ∧ lo ≤ (B g).toInt ∧ (B g).toInt ≤ hi
theorem z_co_u {n : Nat} {S T : v_Sf} {a b i : Nat} {lo hi : Int} {v : Int32} (h : z_co n (S a) (T b) lo hi) (hv : lo ≤ v.toInt ∧ v.toInt ≤ hi) : z_co n (z_s S a i v a) (z_s T b i v b) lo hi := by
  intro g hg
  by_cases q : g = i
  · rw [q, z_ss, z_ss]
    exact ⟨rfl, hv⟩
  · rw [z_sn (by omega), z_sn (by omega)]
    exact h g hg
noncomputable def z_bit (b : Int32) (g : Nat) : Prop := ¬ (b >>> (z_i g &&& 31)) &&& Int32.ofInt 1 = 0
noncomputable def z_told (n : Nat) (m : Int) (b : Int32) (I : Nat → Int32) : Prop := (0 ≤ b.toInt ∧ b.toInt ≤ m) ∧ ∀ g, g < n → (z_bit b g ↔ ¬ I g = 0)
noncomputable def z_qr (a b : Int32) : Prop := a = Int32.ofInt 8 ∧ b = Int32.ofInt (-1) ∨ a = b ∧ 0 ≤ b.toInt ∧ b.toInt ≤ 7
noncomputable def z_St (s : Nat) (S T : v_Sf) : Prop := z_told 12 4095 (S s 0) (T 116) ∧ z_co 12 (S (s + 1)) (T 117) 0 99 ∧ (∀ g, g < 12 → ¬ T 116 g = 0 → z_qr (S (s + 2) g) (T 118 g)) ∧ z_co 12 (S (s + 3)) (T 119) 0 9 ∧ z_co 12 (S (s + 4)) (T 120) 0 5 ∧ z_co 12 (S (s + 5)) (T 121) 0 9 ∧ z_co 12 (S (s + 6)) (T 122) 0 1023 ∧ z_told 5 31 (S s 7) (T 129) ∧ z_co 5 (S (s + 7)) (T 130) 0 9 ∧ z_co 5 (S (s + 8)) (T 131) 0 10 ∧ (S s 11 = T 99 60 ∧ 0 ≤ (T 99 60).toInt ∧ (T 99 60).toInt ≤ 9999) ∧ S s 12 = T 99 61 ∧ S s 13 = T 99 62
noncomputable def z_ls (a b : Int32) : Prop := a = Int32.ofInt (-2) ∧ b = Int32.ofInt (-1) ∨ a = b ∧ 0 ≤ b.toInt ∧ b.toInt ≤ 9
noncomputable def z_Wa (S T : v_Sf) : Prop := ∀ w, w < 6 → S (33 + 2 * w) 1 = T 127 w ∧ (0 ≤ (T 127 w).toInt ∧ (T 127 w).toInt ≤ 48) ∧ S (33 + 2 * w) 2 = T 123 w ∧ S (33 + 2 * w) 3 = T 124 w ∧ S (33 + 2 * w) 4 = T 125 w ∧ (-1 ≤ (T 125 w).toInt ∧ (T 125 w).toInt ≤ 4) ∧ ∀ j, j < (T 127 w).toInt.toNat → z_ls (S (33 + 2 * w + 1) j) (T 126 (48 * w + j))
noncomputable def z_Pl (T : v_Sf) : Prop := ∀ w, w < 6 → T 128 w = 0 ∨ (T 128 w).toInt < (T 127 w).toInt
/-- places in timetables, and X -/
noncomputable def z_PX (s : Nat) (S T : v_Sf) : Prop := z_co 6 (S (s + 9)) (T 128) 0 47 ∧ z_Pl T ∧ (S s 14 = T 99 2 ∧ 0 ≤ (T 99 2).toInt ∧ (T 99 2).toInt ≤ 65535)
noncomputable def z_Mo (c s nc : Nat) (S T : v_Sf) : Prop := z_St s S T ∧ z_Wa S T ∧ z_co 10 (S 48) (T 132) 0 1023 ∧ z_LawR c S T nc ∧ T 99 16 = z_i nc ∧ S 75 3 = T 99 70
theorem z_Mo_f {c s nc : Nat} {S T S' T' : v_Sf} (h : z_Mo c s nc S T) (f : ∀ a, (s < a ∧ a ≤ s + 8 ∨ 33 ≤ a ∧ a ≤ 44 ∨ a = 48 ∨ c ≤ a ∧ a ≤ c + 6 ∧ a ≠ c + 3) → S' a = S a) (fs : ∀ j, (j = 0 ∨ j = 7 ∨ j = 11 ∨ j = 12 ∨ j = 13) → S' s j = S s j) (f75 : S' 75 3 = S 75 3) (g : ∀ a j, (a = 99 ∧ (j = 16 ∨ j = 60 ∨ j = 61 ∨ j = 62 ∨ j = 70) ∨ 101 ≤ a ∧ a ≤ 106 ∨ 116 ≤ a ∧ a ≤ 132 ∧ a ≠ 128) → T' a j = T a j) : z_Mo c s nc S' T' := by
  obtain ⟨⟨a1, a2, a3, a4, a5, a6, a7, a8, a9, a10, a12, a13, a14⟩, b1, b3, b4, b5, b6⟩ := h
  have gr : ∀ a, (101 ≤ a ∧ a ≤ 106 ∨ 116 ≤ a ∧ a ≤ 132 ∧ a ≠ 128) → T' a = T a := fun a q => funext (fun j => g a j (by omega))
  have g99 : ∀ j, (j = 16 ∨ j = 60 ∨ j = 61 ∨ j = 62 ∨ j = 70) → T' 99 j = T 99 j := fun j q => g 99 j (by omega)
  refine ⟨⟨?_, ?_, ?_, ?_, ?_, ?_, ?_, ?_, ?_, ?_, ?_, ?_, ?_⟩, ?_, ?_, ?_, ?_, ?_⟩
  · rw [fs 0 (by omega), gr 116 (by omega)]
    exact a1
  · rw [f (s + 1) (by omega), gr 117 (by omega)]
    exact a2
  · rw [f (s + 2) (by omega), gr 116 (by omega), gr 118 (by omega)]
    exact a3
  · rw [f (s + 3) (by omega), gr 119 (by omega)]
    exact a4
  · rw [f (s + 4) (by omega), gr 120 (by omega)]
    exact a5
  · rw [f (s + 5) (by omega), gr 121 (by omega)]
    exact a6
  · rw [f (s + 6) (by omega), gr 122 (by omega)]
    exact a7
  · rw [fs 7 (by omega), gr 129 (by omega)]
    exact a8
  · rw [f (s + 7) (by omega), gr 130 (by omega)]
    exact a9
  · rw [f (s + 8) (by omega), gr 131 (by omega)]
    exact a10
  · rw [fs 11 (by omega), g99 60 (by omega)]
    exact a12
  · rw [fs 12 (by omega), g99 61 (by omega)]
    exact a13
  · rw [fs 13 (by omega), g99 62 (by omega)]
    exact a14
  · intro w hw
    rw [f (33 + 2 * w) (by omega), f (33 + 2 * w + 1) (by omega), gr 127 (by omega), gr 123 (by omega), gr 124 (by omega), gr 125 (by omega), gr 126 (by omega)]
    exact b1 w hw
  · rw [f 48 (by omega), gr 132 (by omega)]
    exact b3
  · exact z_LawR_t b4 (f _ (by omega)) (f _ (by omega)) (f _ (by omega)) (f _ (by omega)) (f _ (by omega)) (f _ (by omega)) (fun a j q => g a j (by omega))
  · rw [g99 16 (by omega)]
    exact b5
  · rw [f75, g99 70 (by omega)]
    exact b6
/-! what is asked of the law -/
set_option maxRecDepth 100000 in
theorem z_bc_all : ∀ i : Fin 1024, f_J6_bitCount_0f7a4 (z_i i.val) = v_pop (z_i i.val) := by decide +kernel
theorem z_bc {x : Int32} (h : 0 ≤ x.toInt ∧ x.toInt ≤ 1023) : f_J6_bitCount_0f7a4 x = v_pop x := by
  have e : z_i x.toInt.toNat = x := by
    unfold z_i
    rw [show ((x.toInt.toNat : Nat) : Int) = x.toInt by omega, Int32.ofInt_toInt]
  have h2 : f_J6_bitCount_0f7a4 (z_i x.toInt.toNat) = v_pop (z_i x.toInt.toNat) := z_bc_all ⟨x.toInt.toNat, by omega⟩
  rw [e] at h2
  exact h2
theorem z_fill51 (v : Int32) (S : v_Sf) : ∀ a j, g_fill51 v S a j = if a = 51 ∧ j < 15 then v else S a j := by
  have lp : ∀ (r k : Nat) (S : v_Sf) (a j : Nat), r + k = 15 → r_fill51_5 v (Int32.ofNat 15) r k S a j = if a = 51 ∧ k ≤ j ∧ j < 15 then v else S a j := by
    intro r
    induction r with
    | zero =>
      intro k S a j h
      rw [r_fill51_5, if_neg (by omega)]
    | succ r ih =>
      intro k S a j h
      rw [r_fill51_5, ih (k + 1) _ a j (by omega), z_iin (by omega), z_s_eq]
      by_cases q : a = 51 ∧ k ≤ j ∧ j < 15
      · rw [if_pos q]
        by_cases q2 : j = k
        · rw [if_neg (by omega), if_pos (by omega)]
        · rw [if_pos (by omega)]
      · rw [if_neg q, if_neg (by omega), if_neg (by omega)]
  intro a j
  have := lp 15 0 S a j (by omega)
  unfold g_fill51 F_fill51
  rw [show ((Int32.ofNat 15)).toInt.toNat - 0 = 15 from rfl, this]
  by_cases q : a = 51 ∧ j < 15
  · rw [if_pos q, if_pos (by omega)]
  · rw [if_neg q, if_neg (by omega)]
theorem z_noth (T : v_Sf) : (∀ a j, ¬ (a = 99 ∧ 27 ≤ j ∧ j ≤ 40) → g_X12_nothingStands T a j = T a j) ∧ ∀ j, 27 ≤ j → j ≤ 40 → g_X12_nothingStands T 99 j = Int32.ofInt 0 := by
  unfold g_X12_nothingStands
  refine ⟨fun a j q => ?_, fun j h1 h2 => ?_⟩
  · simp only [z_s_eq]
    rw [if_neg (by omega), if_neg (by omega), if_neg (by omega), if_neg (by omega), if_neg (by omega), if_neg (by omega), if_neg (by omega), if_neg (by omega), if_neg (by omega), if_neg (by omega), if_neg (by omega), if_neg (by omega), if_neg (by omega), if_neg (by omega)]
  · have : j = 27 ∨ j = 28 ∨ j = 29 ∨ j = 30 ∨ j = 31 ∨ j = 32 ∨ j = 33 ∨ j = 34 ∨ j = 35 ∨ j = 36 ∨ j = 37 ∨ j = 38 ∨ j = 39 ∨ j = 40 := by omega
    rcases this with rfl | rfl | rfl | rfl | rfl | rfl | rfl | rfl | rfl | rfl | rfl | rfl | rfl | rfl <;> simp [z_s_eq]
theorem z_vw_mk {S T : v_Sf} (h : ∀ i, i < 14 → S 51 i = T 99 (27 + i)) (h14 : S 51 14 = T 99 60 - T 99 60 / Int32.ofInt 12 * Int32.ofInt 12) : z_vw (fun a => f_X1_valueAt a S) (fun a => f_X12_valueOf a T) := by
  have va : ∀ i, i < 15 → f_X1_valueAt (z_i i) S = S 51 i := by
    intro i hi
    unfold f_X1_valueAt
    rw [if_neg (by rw [show (0 : Int32) = z_i 0 from rfl, z_ilt (by omega) (by omega)]; omega), if_neg (by rw [show Int32.ofNat 15 = z_i 15 by decide, z_ile (by omega) (by omega)]; omega), z_iin (by omega)]
  intro ch hc
  show f_X12_valueOf ch T = f_X1_valueAt (g_ixo ch) S
  have cs : ch = Int32.ofInt 115 ∨ ch = Int32.ofInt 113 ∨ ch = Int32.ofInt 116 ∨ ch = Int32.ofInt 104 ∨ ch = Int32.ofInt 100 ∨ ch = Int32.ofInt 119 ∨ ch = Int32.ofInt 111 ∨ ch = Int32.ofInt 112 ∨ ch = Int32.ofInt 108 ∨ ch = Int32.ofInt 97 ∨ ch = Int32.ofInt 110 ∨ ch = Int32.ofInt 118 ∨ ch = Int32.ofInt 117 ∨ ch = Int32.ofInt 122 ∨ ch = Int32.ofInt 109 := by
    refine Classical.byContradiction (fun n => hc ?_)
    simp only [not_or] at n
    obtain ⟨n1, n2, n3, n4, n5, n6, n7, n8, n9, n10, n11, n12, n13, n14, n15⟩ := n
    unfold f_X12_isValue
    rw [if_neg n1, if_neg n2, if_neg n3, if_neg n4, if_neg n5, if_neg n6, if_neg n7, if_neg n8, if_neg n9, if_neg n10, if_neg n11, if_neg n12, if_neg n13, if_neg n14, if_pos n15]
    rfl
  rcases cs with rfl | rfl | rfl | rfl | rfl | rfl | rfl | rfl | rfl | rfl | rfl | rfl | rfl | rfl | rfl
  · rw [show g_ixo (Int32.ofInt 115) = z_i 0 by decide, va 0 (by omega), h 0 (by omega)]
    rfl
  · rw [show g_ixo (Int32.ofInt 113) = z_i 1 by decide, va 1 (by omega), h 1 (by omega)]
    rfl
  · rw [show g_ixo (Int32.ofInt 116) = z_i 2 by decide, va 2 (by omega), h 2 (by omega)]
    rfl
  · rw [show g_ixo (Int32.ofInt 104) = z_i 3 by decide, va 3 (by omega), h 3 (by omega)]
    rfl
  · rw [show g_ixo (Int32.ofInt 100) = z_i 4 by decide, va 4 (by omega), h 4 (by omega)]
    rfl
  · rw [show g_ixo (Int32.ofInt 119) = z_i 5 by decide, va 5 (by omega), h 5 (by omega)]
    rfl
  · rw [show g_ixo (Int32.ofInt 111) = z_i 6 by decide, va 6 (by omega), h 6 (by omega)]
    rfl
  · rw [show g_ixo (Int32.ofInt 112) = z_i 7 by decide, va 7 (by omega), h 7 (by omega)]
    rfl
  · rw [show g_ixo (Int32.ofInt 108) = z_i 8 by decide, va 8 (by omega), h 8 (by omega)]
    rfl
  · rw [show g_ixo (Int32.ofInt 97) = z_i 9 by decide, va 9 (by omega), h 9 (by omega)]
    rfl
  · rw [show g_ixo (Int32.ofInt 110) = z_i 10 by decide, va 10 (by omega), h 10 (by omega)]
    rfl
  · rw [show g_ixo (Int32.ofInt 118) = z_i 11 by decide, va 11 (by omega), h 11 (by omega)]
    rfl
  · rw [show g_ixo (Int32.ofInt 117) = z_i 12 by decide, va 12 (by omega), h 12 (by omega)]
    rfl
  · rw [show g_ixo (Int32.ofInt 122) = z_i 13 by decide, va 13 (by omega), h 13 (by omega)]
    rfl
  · rw [show g_ixo (Int32.ofInt 109) = z_i 14 by decide, va 14 (by omega), h14]
    rfl
theorem z_hasG {s g : Nat} (S : v_Sf) (hg : g < 12) : (f_X7_hasGust s (z_i g) S = 0) ↔ ¬ z_bit (S s 0) g := by
  unfold f_X7_hasGust z_bit
  rw [if_neg (by rw [show (0 : Int32) = z_i 0 from rfl, z_ilt (by omega) (by omega)]; omega), if_neg (by rw [show Int32.ofInt 12 = z_i 12 from rfl, z_ile (by omega) (by omega)]; omega)]
  by_cases q : (S s 0 >>> (z_i g &&& 31)) &&& Int32.ofInt 1 = 0
  · rw [if_pos q]
    exact ⟨fun _ n => n q, fun _ => rfl⟩
  · rw [if_neg q]
    exact ⟨fun n => absurd n (by decide), fun n => absurd q n⟩
theorem z_hasG2 {s g : Nat} {S T : v_Sf} (h : z_St s S T) (hg : g < 12) : (f_X7_hasGust s (z_i g) S = 0) ↔ T 116 g = 0 := by
  rw [z_hasG S hg, h.1.2 g hg]
  exact Classical.not_not
theorem z_stn {s : Nat} (hs : z_st s) : 1 ≤ s ∧ s ≤ 21 ∧ s + 9 ≤ 30 := by rcases hs with rfl | rfl | rfl <;> decide
/-- a gust is looked at -/
theorem z_lookG {s g : Nat} (hs : z_st s) {S T : v_Sf} (h : z_St s S T) (hw : z_Wa S T) (hg : g < 12) (ht : ¬ T 116 g = 0) : (∀ a, a ≠ 51 → g_X3_lookAtGust s (z_i g) S a = S a) ∧ (∀ a j, ¬ (a = 99 ∧ 27 ≤ j ∧ j ≤ 40) → g_X12_gustStands (z_i g) T a j = T a j) ∧ (∀ i, i < 14 → g_X3_lookAtGust s (z_i g) S 51 i = g_X12_gustStands (z_i g) T 99 (27 + i)) ∧ g_X3_lookAtGust s (z_i g) S 51 14 = T 99 60 - T 99 60 / Int32.ofInt 12 * Int32.ofInt 12 ∧ (∀ i, 6 ≤ i → i < 14 → g_X12_gustStands (z_i g) T 99 (27 + i) = Int32.ofInt 0) := by
  have hsn := z_stn hs
  have eg : (z_i g).toInt.toNat = g := z_iin (by omega)
  obtain ⟨a1, a2, a3, a4, a5, a6, a7, a8, a9, a10, a12, a13, a14⟩ := h
  have fl := z_fill51 (Int32.ofInt 0) S
  have fr : ∀ a j, a ≠ 51 → g_fill51 (Int32.ofInt 0) S a j = S a j := fun a j q => by rw [fl, if_neg (by omega)]
  have no := z_noth T
  have hh : ¬ f_X7_hasGust s (z_i g) (z_s (g_fill51 (Int32.ofInt 0) S) 51 14 (((g_fill51 (Int32.ofInt 0) S) s 11) - ((g_fill51 (Int32.ofInt 0) S) s 11) / (Int32.ofInt 12) * (Int32.ofInt 12))) = 0 := by
    rw [z_hasG _ hg, z_sn (by omega), fr _ _ (by omega)]
    exact not_not_intro ((a1.2 g hg).mpr ht)
  have w5 := a5 g hg
  have ew : S (s + 4) g = T 120 g := w5.1
  have n1 : ¬ T 120 g < 0 := by
    rw [Int32.lt_iff_toInt_lt]
    have e0 : (0 : Int32).toInt = 0 := rfl
    omega
  have n2 : ¬ Int32.ofNat 6 ≤ T 120 g := by
    rw [Int32.le_iff_toInt_le]
    have e0 : (Int32.ofNat 6).toInt = 6 := rfl
    omega
  have wd := (hw (T 120 g).toInt.toNat (by omega)).2.2.2.1
  have E : g_X3_lookAtGust s (z_i g) S = z_s (z_s (z_s (z_s (z_s (z_s (z_s (g_fill51 (Int32.ofInt 0) S) 51 14 (T 99 60 - T 99 60 / Int32.ofInt 12 * Int32.ofInt 12)) 51 0 (T 117 g)) 51 1 (S (s + 2) g)) 51 2 (T 119 g)) 51 3 (v_pop (T 122 g))) 51 4 (T 124 (T 120 g).toInt.toNat)) 51 5 (T 120 g) := by
    unfold g_X3_lookAtGust
    rw [if_pos hh, eg, fr (s + 4) _ (by omega), ew, if_neg n1, if_neg n2, fr s _ (by omega), fr (s + 1) _ (by omega), fr (s + 2) _ (by omega), fr (s + 3) _ (by omega), fr (s + 6) _ (by omega), fr (33 + 2 * (T 120 g).toInt.toNat) _ (by omega), a12.1, (a2 g hg).1, (a4 g hg).1, (a7 g hg).1, wd, z_bc (a7 g hg).2]
  have q := a3 g hg ht
  have E2 : g_X12_gustStands (z_i g) T = z_s (z_s (z_s (z_s (z_s (z_s (g_X12_nothingStands T) 99 27 (T 117 g)) 99 28 (S (s + 2) g)) 99 29 (T 119 g)) 99 30 (v_pop (T 122 g))) 99 31 (T 124 (T 120 g).toInt.toNat)) 99 32 (T 120 g) := by
    unfold g_X12_gustStands f_X12_sizeOf
    rw [eg, no.1 118 _ (by omega), no.1 117 _ (by omega), no.1 119 _ (by omega), no.1 122 _ (by omega), no.1 120 _ (by omega), no.1 124 _ (by omega)]
    rcases q with ⟨q1, q2⟩ | ⟨q1, q2, q3⟩
    · rw [if_neg (not_not_intro q2), q1]
    · rw [if_pos, q1]
      intro e
      rw [e] at q2
      exact absurd q2 (by decide)
  rw [E, E2]
  refine ⟨fun a ha => ?_, fun a j q => ?_, fun i hi => ?_, ?_, fun i h1 h2 => ?_⟩
  · funext j
    rw [z_sn (by omega), z_sn (by omega), z_sn (by omega), z_sn (by omega), z_sn (by omega), z_sn (by omega), z_sn (by omega), fr a j ha]
  · rw [z_sn (by omega), z_sn (by omega), z_sn (by omega), z_sn (by omega), z_sn (by omega), z_sn (by omega), no.1 a j q]
  · have cs : i = 0 ∨ i = 1 ∨ i = 2 ∨ i = 3 ∨ i = 4 ∨ i = 5 ∨ 6 ≤ i := by omega
    rcases cs with rfl | rfl | rfl | rfl | rfl | rfl | h6
    · rw [z_sn (by omega), z_sn (by omega), z_sn (by omega), z_sn (by omega), z_sn (by omega), z_ss, z_sn (by omega), z_sn (by omega), z_sn (by omega), z_sn (by omega), z_sn (by omega), z_ss]
    · rw [z_sn (by omega), z_sn (by omega), z_sn (by omega), z_sn (by omega), z_ss, z_sn (by omega), z_sn (by omega), z_sn (by omega), z_sn (by omega), z_ss]
    · rw [z_sn (by omega), z_sn (by omega), z_sn (by omega), z_ss, z_sn (by omega), z_sn (by omega), z_sn (by omega), z_ss]
    · rw [z_sn (by omega), z_sn (by omega), z_ss, z_sn (by omega), z_sn (by omega), z_ss]
    · rw [z_sn (by omega), z_ss, z_sn (by omega), z_ss]
    · rw [z_ss, z_ss]
    · rw [z_sn (by omega), z_sn (by omega), z_sn (by omega), z_sn (by omega), z_sn (by omega), z_sn (by omega), z_sn (by omega), fl, if_pos (by omega), z_sn (by omega), z_sn (by omega), z_sn (by omega), z_sn (by omega), z_sn (by omega), z_sn (by omega), no.2 _ (by omega) (by omega)]
  · rw [z_sn (by omega), z_sn (by omega), z_sn (by omega), z_sn (by omega), z_sn (by omega), z_sn (by omega), z_ss]
  · rw [z_sn (by omega), z_sn (by omega), z_sn (by omega), z_sn (by omega), z_sn (by omega), z_sn (by omega), no.2 _ (by omega) (by omega)]
