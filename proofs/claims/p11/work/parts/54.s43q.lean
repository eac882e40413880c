/-! months: numbers, writes of the state -/
theorem z_subI {a b : Int32} (h : -2147483648 ≤ a.toInt - b.toInt ∧ a.toInt - b.toInt ≤ 2147483647) : (a - b).toInt = a.toInt - b.toInt := by
  have e : a - b = Int32.ofInt (a.toInt - b.toInt) := by rw [Int32.ofInt_sub, Int32.ofInt_toInt, Int32.ofInt_toInt]
  rw [e]
  exact q_ofr h.1 h.2
theorem z_addI {a b : Int32} (h : -2147483648 ≤ a.toInt + b.toInt ∧ a.toInt + b.toInt ≤ 2147483647) : (a + b).toInt = a.toInt + b.toInt := by
  have e : a + b = Int32.ofInt (a.toInt + b.toInt) := by rw [Int32.ofInt_add, Int32.ofInt_toInt, Int32.ofInt_toInt]
  rw [e]
  exact q_ofr h.1 h.2
theorem z_ltI2 {a b : Int32} : (a < b) ↔ a.toInt < b.toInt := Int32.lt_iff_toInt_lt
theorem z_leI2 {a b : Int32} : (a ≤ b) ↔ a.toInt ≤ b.toInt := Int32.le_iff_toInt_le
theorem z_inj2 {a b : Int32} (h : a.toInt = b.toInt) : a = b := Int32.toInt_inj.mp h
theorem z_maxI (a b : Int32) : (z_max a b).toInt = max a.toInt b.toInt := by
  unfold z_max
  split
  · rename_i h
    have := z_ltI2.mp h
    omega
  · rename_i h
    have : ¬ a.toInt < b.toInt := fun q => h (z_ltI2.mpr q)
    omega
theorem z_minI (a b : Int32) : (z_min a b).toInt = min a.toInt b.toInt := by
  unfold z_min
  split
  · rename_i h
    have := z_ltI2.mp h
    omega
  · rename_i h
    have : ¬ b.toInt < a.toInt := fun q => h (z_ltI2.mpr q)
    omega
theorem z_heldI (a b : Int32) : (f_X12_held a b).toInt = if 0 ≤ a.toInt then min a.toInt b.toInt else 0 := by
  have e0 : (0 : Int32).toInt = 0 := rfl
  unfold f_X12_held
  by_cases h : 0 ≤ a
  · have h' := z_leI2.mp h
    rw [if_pos h, if_pos (show (0 : Int) ≤ a.toInt by omega)]
    split
    · rename_i g
      have := z_leI2.mp g
      omega
    · rename_i g
      have : ¬ a.toInt ≤ b.toInt := fun q => g (z_leI2.mpr q)
      omega
  · have h' : ¬ (0 : Int32).toInt ≤ a.toInt := fun q => h (z_leI2.mpr q)
    rw [if_neg h, if_neg (show ¬ (0 : Int) ≤ a.toInt by omega)]
    rfl
theorem z_n99 : (Int32.ofInt 99).toInt = 99 := rfl
theorem z_n9 : (Int32.ofInt 9).toInt = 9 := rfl
theorem z_n0 : (Int32.ofInt 0).toInt = 0 := rfl
theorem z_n1 : (Int32.ofInt 1).toInt = 1 := rfl
theorem z_weakN {a v : Int32} (ha : 0 ≤ a.toInt ∧ a.toInt ≤ 99) (hv : 0 ≤ v.toInt ∧ v.toInt ≤ 20) : z_max (Int32.ofInt 0) (a - v) = f_X12_held (a - v) (Int32.ofInt 99) ∧ 0 ≤ (f_X12_held (a - v) (Int32.ofInt 99)).toInt ∧ (f_X12_held (a - v) (Int32.ofInt 99)).toInt ≤ 99 := by
  have e := z_subI (a := a) (b := v) (by omega)
  have h := z_heldI (a - v) (Int32.ofInt 99)
  rw [e, z_n99] at h
  have m := z_maxI (Int32.ofInt 0) (a - v)
  rw [e, z_n0] at m
  refine ⟨z_inj2 ?_, ?_, ?_⟩
  · rw [h, m]
    split <;> omega
  · rw [h]
    split <;> omega
  · rw [h]
    split <;> omega
theorem z_feedN {a v : Int32} (ha : 0 ≤ a.toInt ∧ a.toInt ≤ 99) (hv : 0 ≤ v.toInt ∧ v.toInt ≤ 20) : z_min (Int32.ofInt 99) (a + v) = f_X12_held (a + v) (Int32.ofInt 99) ∧ 0 ≤ (f_X12_held (a + v) (Int32.ofInt 99)).toInt ∧ (f_X12_held (a + v) (Int32.ofInt 99)).toInt ≤ 99 := by
  have e := z_addI (a := a) (b := v) (by omega)
  have h := z_heldI (a + v) (Int32.ofInt 99)
  rw [e, z_n99] at h
  have m := z_minI (Int32.ofInt 99) (a + v)
  rw [e, z_n99] at m
  refine ⟨z_inj2 ?_, ?_, ?_⟩
  · rw [h, m]
    split <;> omega
  · rw [h]
    split <;> omega
  · rw [h]
    split <;> omega
theorem z_tempN {a : Int32} (ha : 0 ≤ a.toInt ∧ a.toInt ≤ 9) : z_min (Int32.ofInt 9) (a + Int32.ofInt 1) = f_X12_held (a + Int32.ofInt 1) (Int32.ofInt 9) ∧ 0 ≤ (f_X12_held (a + Int32.ofInt 1) (Int32.ofInt 9)).toInt ∧ (f_X12_held (a + Int32.ofInt 1) (Int32.ofInt 9)).toInt ≤ 9 := by
  have e := z_addI (a := a) (b := Int32.ofInt 1) (by rw [z_n1]; omega)
  have h := z_heldI (a + Int32.ofInt 1) (Int32.ofInt 9)
  rw [e, z_n9, z_n1] at h
  have m := z_minI (Int32.ofInt 9) (a + Int32.ofInt 1)
  rw [e, z_n9, z_n1] at m
  refine ⟨z_inj2 ?_, ?_, ?_⟩
  · rw [h, m]
    split <;> omega
  · rw [h]
    split <;> omega
  · rw [h]
    split <;> omega
theorem z_tells_r {L most : Int32} (hm : 0 ≤ most.toInt) : ∀ (r k : Nat) (T : v_Sf), 0 ≤ (r_X12_tells_2 L most r k T).1.toInt ∧ (r_X12_tells_2 L most r k T).1.toInt ≤ most.toInt := by
  have z : 0 ≤ (Int32.ofInt 0).toInt ∧ (Int32.ofInt 0).toInt ≤ most.toInt := by
    rw [z_n0]
    omega
  intro r
  induction r with
  | zero =>
    intro k T
    rw [r_X12_tells_2]
    exact z
  | succ r ih =>
    intro k T
    rw [r_X12_tells_2]
    split
    · exact z
    · split
      · exact ih _ _
      · split
        · split
          · show 0 ≤ (f_X12_held _ most).toInt ∧ (f_X12_held _ most).toInt ≤ most.toInt
            rw [z_heldI]
            split <;> omega
          · exact z
        · exact ih _ _
theorem z_St_str {s : Nat} (hs : z_st s) {S T : v_Sf} (h : z_St s S T) (i : Nat) {v : Int32} (hv : 0 ≤ v.toInt ∧ v.toInt ≤ 99) : z_St s (z_s S (s + 1) i v) (z_s T 117 i v) := by
  have hsn := z_stn hs
  obtain ⟨a1, a2, a3, a4, a5, a6, a7, a8, a9, a10, a12, a13, a14⟩ := h
  refine ⟨?_, ?_, ?_, ?_, ?_, ?_, ?_, ?_, ?_, ?_, ?_, ?_, ?_⟩
  · rw [z_sn (by omega), z_sr (show 116 ≠ 117 by decide)]
    exact a1
  · exact z_co_u a2 hv
  · rw [z_sr (show s + 2 ≠ s + 1 by omega), z_sr (show 116 ≠ 117 by decide), z_sr (show 118 ≠ 117 by decide)]
    exact a3
  · rw [z_sr (show s + 3 ≠ s + 1 by omega), z_sr (show 119 ≠ 117 by decide)]
    exact a4
  · rw [z_sr (show s + 4 ≠ s + 1 by omega), z_sr (show 120 ≠ 117 by decide)]
    exact a5
  · rw [z_sr (show s + 5 ≠ s + 1 by omega), z_sr (show 121 ≠ 117 by decide)]
    exact a6
  · rw [z_sr (show s + 6 ≠ s + 1 by omega), z_sr (show 122 ≠ 117 by decide)]
    exact a7
  · rw [z_sn (by omega), z_sr (show 129 ≠ 117 by decide)]
    exact a8
  · rw [z_sr (show s + 7 ≠ s + 1 by omega), z_sr (show 130 ≠ 117 by decide)]
    exact a9
  · rw [z_sr (show s + 8 ≠ s + 1 by omega), z_sr (show 131 ≠ 117 by decide)]
    exact a10
  · rw [z_sn (by omega), z_sn (by omega)]
    exact a12
  · rw [z_sn (by omega), z_sn (by omega)]
    exact a13
  · rw [z_sn (by omega), z_sn (by omega)]
    exact a14
theorem z_Mo_str {c s nc : Nat} (hc : z_cd c) (hs : z_st s) {S T : v_Sf} (h : z_Mo c s nc S T) (i : Nat) {v : Int32} (hv : 0 ≤ v.toInt ∧ v.toInt ≤ 99) : z_Mo c s nc (z_s S (s + 1) i v) (z_s T 117 i v) := by
  have hsn := z_stn hs
  have hcn := z_cdn hc
  obtain ⟨a, b1, b3, b4, b5, b6⟩ := h
  have fS : ∀ b, b ≠ s + 1 → (z_s S (s + 1) i v) b = S b := fun b q => z_sr q
  have fT : ∀ b, b ≠ 117 → (z_s T 117 i v) b = T b := fun b q => z_sr q
  refine ⟨z_St_str hs a i hv, ?_, ?_, ?_, ?_, ?_⟩
  · intro w hw
    rw [fS (33 + 2 * w) (by omega), fS (33 + 2 * w + 1) (by omega), fT 127 (by decide), fT 123 (by decide), fT 124 (by decide), fT 125 (by decide), fT 126 (by decide)]
    exact b1 w hw
  · rw [fS 48 (by omega), fT 132 (by decide)]
    exact b3
  · exact z_LawR_t b4 (fS _ (by omega)) (fS _ (by omega)) (fS _ (by omega)) (fS _ (by omega)) (fS _ (by omega)) (fS _ (by omega)) (fun a j q => by rw [fT a (by omega)])
  · rw [fT 99 (by decide)]
    exact b5
  · rw [fS 75 (by omega), fT 99 (by decide)]
    exact b6
theorem z_St_tem {s : Nat} (hs : z_st s) {S T : v_Sf} (h : z_St s S T) (i : Nat) {v : Int32} (hv : 0 ≤ v.toInt ∧ v.toInt ≤ 9) : z_St s (z_s S (s + 3) i v) (z_s T 119 i v) := by
  have hsn := z_stn hs
  obtain ⟨a1, a2, a3, a4, a5, a6, a7, a8, a9, a10, a12, a13, a14⟩ := h
  refine ⟨?_, ?_, ?_, ?_, ?_, ?_, ?_, ?_, ?_, ?_, ?_, ?_, ?_⟩
  · rw [z_sn (by omega), z_sr (show 116 ≠ 119 by decide)]
    exact a1
  · rw [z_sr (show s + 1 ≠ s + 3 by omega), z_sr (show 117 ≠ 119 by decide)]
    exact a2
  · rw [z_sr (show s + 2 ≠ s + 3 by omega), z_sr (show 116 ≠ 119 by decide), z_sr (show 118 ≠ 119 by decide)]
    exact a3
  · exact z_co_u a4 hv
  · rw [z_sr (show s + 4 ≠ s + 3 by omega), z_sr (show 120 ≠ 119 by decide)]
    exact a5
  · rw [z_sr (show s + 5 ≠ s + 3 by omega), z_sr (show 121 ≠ 119 by decide)]
    exact a6
  · rw [z_sr (show s + 6 ≠ s + 3 by omega), z_sr (show 122 ≠ 119 by decide)]
    exact a7
  · rw [z_sn (by omega), z_sr (show 129 ≠ 119 by decide)]
    exact a8
  · rw [z_sr (show s + 7 ≠ s + 3 by omega), z_sr (show 130 ≠ 119 by decide)]
    exact a9
  · rw [z_sr (show s + 8 ≠ s + 3 by omega), z_sr (show 131 ≠ 119 by decide)]
    exact a10
  · rw [z_sn (by omega), z_sn (by omega)]
    exact a12
  · rw [z_sn (by omega), z_sn (by omega)]
    exact a13
  · rw [z_sn (by omega), z_sn (by omega)]
    exact a14
theorem z_Mo_tem {c s nc : Nat} (hc : z_cd c) (hs : z_st s) {S T : v_Sf} (h : z_Mo c s nc S T) (i : Nat) {v : Int32} (hv : 0 ≤ v.toInt ∧ v.toInt ≤ 9) : z_Mo c s nc (z_s S (s + 3) i v) (z_s T 119 i v) := by
  have hsn := z_stn hs
  have hcn := z_cdn hc
  obtain ⟨a, b1, b3, b4, b5, b6⟩ := h
  have fS : ∀ b, b ≠ s + 3 → (z_s S (s + 3) i v) b = S b := fun b q => z_sr q
  have fT : ∀ b, b ≠ 119 → (z_s T 119 i v) b = T b := fun b q => z_sr q
  refine ⟨z_St_tem hs a i hv, ?_, ?_, ?_, ?_, ?_⟩
  · intro w hw
    rw [fS (33 + 2 * w) (by omega), fS (33 + 2 * w + 1) (by omega), fT 127 (by decide), fT 123 (by decide), fT 124 (by decide), fT 125 (by decide), fT 126 (by decide)]
    exact b1 w hw
  · rw [fS 48 (by omega), fT 132 (by decide)]
    exact b3
  · exact z_LawR_t b4 (fS _ (by omega)) (fS _ (by omega)) (fS _ (by omega)) (fS _ (by omega)) (fS _ (by omega)) (fS _ (by omega)) (fun a j q => by rw [fT a (by omega)])
  · rw [fT 99 (by decide)]
    exact b5
  · rw [fS 75 (by omega), fT 99 (by decide)]
    exact b6
theorem z_St_hab {s : Nat} (hs : z_st s) {S T : v_Sf} (h : z_St s S T) (i : Nat) {v : Int32} (hv : 0 ≤ v.toInt ∧ v.toInt ≤ 1023) : z_St s (z_s S (s + 6) i v) (z_s T 122 i v) := by
  have hsn := z_stn hs
  obtain ⟨a1, a2, a3, a4, a5, a6, a7, a8, a9, a10, a12, a13, a14⟩ := h
  refine ⟨?_, ?_, ?_, ?_, ?_, ?_, ?_, ?_, ?_, ?_, ?_, ?_, ?_⟩
  · rw [z_sn (by omega), z_sr (show 116 ≠ 122 by decide)]
    exact a1
  · rw [z_sr (show s + 1 ≠ s + 6 by omega), z_sr (show 117 ≠ 122 by decide)]
    exact a2
  · rw [z_sr (show s + 2 ≠ s + 6 by omega), z_sr (show 116 ≠ 122 by decide), z_sr (show 118 ≠ 122 by decide)]
    exact a3
  · rw [z_sr (show s + 3 ≠ s + 6 by omega), z_sr (show 119 ≠ 122 by decide)]
    exact a4
  · rw [z_sr (show s + 4 ≠ s + 6 by omega), z_sr (show 120 ≠ 122 by decide)]
    exact a5
  · rw [z_sr (show s + 5 ≠ s + 6 by omega), z_sr (show 121 ≠ 122 by decide)]
    exact a6
  · exact z_co_u a7 hv
  · rw [z_sn (by omega), z_sr (show 129 ≠ 122 by decide)]
    exact a8
  · rw [z_sr (show s + 7 ≠ s + 6 by omega), z_sr (show 130 ≠ 122 by decide)]
    exact a9
  · rw [z_sr (show s + 8 ≠ s + 6 by omega), z_sr (show 131 ≠ 122 by decide)]
    exact a10
  · rw [z_sn (by omega), z_sn (by omega)]
    exact a12
  · rw [z_sn (by omega), z_sn (by omega)]
    exact a13
  · rw [z_sn (by omega), z_sn (by omega)]
    exact a14
theorem z_Mo_hab {c s nc : Nat} (hc : z_cd c) (hs : z_st s) {S T : v_Sf} (h : z_Mo c s nc S T) (i : Nat) {v : Int32} (hv : 0 ≤ v.toInt ∧ v.toInt ≤ 1023) : z_Mo c s nc (z_s S (s + 6) i v) (z_s T 122 i v) := by
  have hsn := z_stn hs
  have hcn := z_cdn hc
  obtain ⟨a, b1, b3, b4, b5, b6⟩ := h
  have fS : ∀ b, b ≠ s + 6 → (z_s S (s + 6) i v) b = S b := fun b q => z_sr q
  have fT : ∀ b, b ≠ 122 → (z_s T 122 i v) b = T b := fun b q => z_sr q
  refine ⟨z_St_hab hs a i hv, ?_, ?_, ?_, ?_, ?_⟩
  · intro w hw
    rw [fS (33 + 2 * w) (by omega), fS (33 + 2 * w + 1) (by omega), fT 127 (by decide), fT 123 (by decide), fT 124 (by decide), fT 125 (by decide), fT 126 (by decide)]
    exact b1 w hw
  · rw [fS 48 (by omega), fT 132 (by decide)]
    exact b3
  · exact z_LawR_t b4 (fS _ (by omega)) (fS _ (by omega)) (fS _ (by omega)) (fS _ (by omega)) (fS _ (by omega)) (fS _ (by omega)) (fun a j q => by rw [fT a (by omega)])
  · rw [fT 99 (by decide)]
    exact b5
  · rw [fS 75 (by omega), fT 99 (by decide)]
    exact b6
theorem z_St_ill {s : Nat} (hs : z_st s) {S T : v_Sf} (h : z_St s S T) (i : Nat) {v : Int32} (hv : 0 ≤ v.toInt ∧ v.toInt ≤ 10) : z_St s (z_s S (s + 8) i v) (z_s T 131 i v) := by
  have hsn := z_stn hs
  obtain ⟨a1, a2, a3, a4, a5, a6, a7, a8, a9, a10, a12, a13, a14⟩ := h
  refine ⟨?_, ?_, ?_, ?_, ?_, ?_, ?_, ?_, ?_, ?_, ?_, ?_, ?_⟩
  · rw [z_sn (by omega), z_sr (show 116 ≠ 131 by decide)]
    exact a1
  · rw [z_sr (show s + 1 ≠ s + 8 by omega), z_sr (show 117 ≠ 131 by decide)]
    exact a2
  · rw [z_sr (show s + 2 ≠ s + 8 by omega), z_sr (show 116 ≠ 131 by decide), z_sr (show 118 ≠ 131 by decide)]
    exact a3
  · rw [z_sr (show s + 3 ≠ s + 8 by omega), z_sr (show 119 ≠ 131 by decide)]
    exact a4
  · rw [z_sr (show s + 4 ≠ s + 8 by omega), z_sr (show 120 ≠ 131 by decide)]
    exact a5
  · rw [z_sr (show s + 5 ≠ s + 8 by omega), z_sr (show 121 ≠ 131 by decide)]
    exact a6
  · rw [z_sr (show s + 6 ≠ s + 8 by omega), z_sr (show 122 ≠ 131 by decide)]
    exact a7
  · rw [z_sn (by omega), z_sr (show 129 ≠ 131 by decide)]
    exact a8
  · rw [z_sr (show s + 7 ≠ s + 8 by omega), z_sr (show 130 ≠ 131 by decide)]
    exact a9
  · exact z_co_u a10 hv
  · rw [z_sn (by omega), z_sn (by omega)]
    exact a12
  · rw [z_sn (by omega), z_sn (by omega)]
    exact a13
  · rw [z_sn (by omega), z_sn (by omega)]
    exact a14
theorem z_Mo_ill {c s nc : Nat} (hc : z_cd c) (hs : z_st s) {S T : v_Sf} (h : z_Mo c s nc S T) (i : Nat) {v : Int32} (hv : 0 ≤ v.toInt ∧ v.toInt ≤ 10) : z_Mo c s nc (z_s S (s + 8) i v) (z_s T 131 i v) := by
  have hsn := z_stn hs
  have hcn := z_cdn hc
  obtain ⟨a, b1, b3, b4, b5, b6⟩ := h
  have fS : ∀ b, b ≠ s + 8 → (z_s S (s + 8) i v) b = S b := fun b q => z_sr q
  have fT : ∀ b, b ≠ 131 → (z_s T 131 i v) b = T b := fun b q => z_sr q
  refine ⟨z_St_ill hs a i hv, ?_, ?_, ?_, ?_, ?_⟩
  · intro w hw
    rw [fS (33 + 2 * w) (by omega), fS (33 + 2 * w + 1) (by omega), fT 127 (by decide), fT 123 (by decide), fT 124 (by decide), fT 125 (by decide), fT 126 (by decide)]
    exact b1 w hw
  · rw [fS 48 (by omega), fT 132 (by decide)]
    exact b3
  · exact z_LawR_t b4 (fS _ (by omega)) (fS _ (by omega)) (fS _ (by omega)) (fS _ (by omega)) (fS _ (by omega)) (fS _ (by omega)) (fun a j q => by rw [fT a (by omega)])
  · rw [fT 99 (by decide)]
    exact b5
  · rw [fS 75 (by omega), fT 99 (by decide)]
    exact b6
theorem z_St_toy {s : Nat} (hs : z_st s) {S T : v_Sf} (h : z_St s S T) {v : Int32} : z_St s (z_s S s 12 v) (z_s T 99 61 v) := by
  have hsn := z_stn hs
  obtain ⟨a1, a2, a3, a4, a5, a6, a7, a8, a9, a10, a12, a13, a14⟩ := h
  refine ⟨?_, ?_, ?_, ?_, ?_, ?_, ?_, ?_, ?_, ?_, ?_, ?_, ?_⟩
  · rw [z_sn (by omega), z_sr (show 116 ≠ 99 by decide)]
    exact a1
  · rw [z_sr (show s + 1 ≠ s by omega), z_sr (show 117 ≠ 99 by decide)]
    exact a2
  · rw [z_sr (show s + 2 ≠ s by omega), z_sr (show 116 ≠ 99 by decide), z_sr (show 118 ≠ 99 by decide)]
    exact a3
  · rw [z_sr (show s + 3 ≠ s by omega), z_sr (show 119 ≠ 99 by decide)]
    exact a4
  · rw [z_sr (show s + 4 ≠ s by omega), z_sr (show 120 ≠ 99 by decide)]
    exact a5
  · rw [z_sr (show s + 5 ≠ s by omega), z_sr (show 121 ≠ 99 by decide)]
    exact a6
  · rw [z_sr (show s + 6 ≠ s by omega), z_sr (show 122 ≠ 99 by decide)]
    exact a7
  · rw [z_sn (by omega), z_sr (show 129 ≠ 99 by decide)]
    exact a8
  · rw [z_sr (show s + 7 ≠ s by omega), z_sr (show 130 ≠ 99 by decide)]
    exact a9
  · rw [z_sr (show s + 8 ≠ s by omega), z_sr (show 131 ≠ 99 by decide)]
    exact a10
  · rw [z_sn (by omega), z_sn (by omega)]
    exact a12
  · rw [z_ss, z_ss]
  · rw [z_sn (by omega), z_sn (by omega)]
    exact a14
theorem z_Mo_toy {c s nc : Nat} (hc : z_cd c) (hs : z_st s) {S T : v_Sf} (h : z_Mo c s nc S T) {v : Int32} : z_Mo c s nc (z_s S s 12 v) (z_s T 99 61 v) := by
  have hsn := z_stn hs
  have hcn := z_cdn hc
  obtain ⟨a, b1, b3, b4, b5, b6⟩ := h
  have fS : ∀ b, b ≠ s → (z_s S s 12 v) b = S b := fun b q => z_sr q
  have fT : ∀ b, b ≠ 99 → (z_s T 99 61 v) b = T b := fun b q => z_sr q
  refine ⟨z_St_toy hs a , ?_, ?_, ?_, ?_, ?_⟩
  · intro w hw
    rw [fS (33 + 2 * w) (by omega), fS (33 + 2 * w + 1) (by omega), fT 127 (by decide), fT 123 (by decide), fT 124 (by decide), fT 125 (by decide), fT 126 (by decide)]
    exact b1 w hw
  · rw [fS 48 (by omega), fT 132 (by decide)]
    exact b3
  · exact z_LawR_t b4 (fS _ (by omega)) (fS _ (by omega)) (fS _ (by omega)) (fS _ (by omega)) (fS _ (by omega)) (fS _ (by omega)) (fun a j q => by rw [fT a (by omega)])
  · rw [z_sn (by omega)]
    exact b5
  · rw [fS 75 (by omega), z_sn (by omega)]
    exact b6
theorem z_St_whi {s : Nat} (hs : z_st s) {S T : v_Sf} (h : z_St s S T) {v : Int32} : z_St s (z_s S s 13 v) (z_s T 99 62 v) := by
  have hsn := z_stn hs
  obtain ⟨a1, a2, a3, a4, a5, a6, a7, a8, a9, a10, a12, a13, a14⟩ := h
  refine ⟨?_, ?_, ?_, ?_, ?_, ?_, ?_, ?_, ?_, ?_, ?_, ?_, ?_⟩
  · rw [z_sn (by omega), z_sr (show 116 ≠ 99 by decide)]
    exact a1
  · rw [z_sr (show s + 1 ≠ s by omega), z_sr (show 117 ≠ 99 by decide)]
    exact a2
  · rw [z_sr (show s + 2 ≠ s by omega), z_sr (show 116 ≠ 99 by decide), z_sr (show 118 ≠ 99 by decide)]
    exact a3
  · rw [z_sr (show s + 3 ≠ s by omega), z_sr (show 119 ≠ 99 by decide)]
    exact a4
  · rw [z_sr (show s + 4 ≠ s by omega), z_sr (show 120 ≠ 99 by decide)]
    exact a5
  · rw [z_sr (show s + 5 ≠ s by omega), z_sr (show 121 ≠ 99 by decide)]
    exact a6
  · rw [z_sr (show s + 6 ≠ s by omega), z_sr (show 122 ≠ 99 by decide)]
    exact a7
  · rw [z_sn (by omega), z_sr (show 129 ≠ 99 by decide)]
    exact a8
  · rw [z_sr (show s + 7 ≠ s by omega), z_sr (show 130 ≠ 99 by decide)]
    exact a9
  · rw [z_sr (show s + 8 ≠ s by omega), z_sr (show 131 ≠ 99 by decide)]
    exact a10
  · rw [z_sn (by omega), z_sn (by omega)]
    exact a12
  · rw [z_sn (by omega), z_sn (by omega)]
    exact a13
  · rw [z_ss, z_ss]
theorem z_Mo_whi {c s nc : Nat} (hc : z_cd c) (hs : z_st s) {S T : v_Sf} (h : z_Mo c s nc S T) {v : Int32} : z_Mo c s nc (z_s S s 13 v) (z_s T 99 62 v) := by
  have hsn := z_stn hs
  have hcn := z_cdn hc
  obtain ⟨a, b1, b3, b4, b5, b6⟩ := h
  have fS : ∀ b, b ≠ s → (z_s S s 13 v) b = S b := fun b q => z_sr q
  have fT : ∀ b, b ≠ 99 → (z_s T 99 62 v) b = T b := fun b q => z_sr q
  refine ⟨z_St_whi hs a , ?_, ?_, ?_, ?_, ?_⟩
  · intro w hw
    rw [fS (33 + 2 * w) (by omega), fS (33 + 2 * w + 1) (by omega), fT 127 (by decide), fT 123 (by decide), fT 124 (by decide), fT 125 (by decide), fT 126 (by decide)]
    exact b1 w hw
  · rw [fS 48 (by omega), fT 132 (by decide)]
    exact b3
  · exact z_LawR_t b4 (fS _ (by omega)) (fS _ (by omega)) (fS _ (by omega)) (fS _ (by omega)) (fS _ (by omega)) (fS _ (by omega)) (fun a j q => by rw [fT a (by omega)])
  · rw [z_sn (by omega)]
    exact b5
  · rw [fS 75 (by omega), z_sn (by omega)]
    exact b6
theorem z_St_mon {s : Nat} (hs : z_st s) {S T : v_Sf} (h : z_St s S T) {v : Int32} (hv : 0 ≤ v.toInt ∧ v.toInt ≤ 9999) : z_St s (z_s S s 11 v) (z_s T 99 60 v) := by
  have hsn := z_stn hs
  obtain ⟨a1, a2, a3, a4, a5, a6, a7, a8, a9, a10, a12, a13, a14⟩ := h
  refine ⟨?_, ?_, ?_, ?_, ?_, ?_, ?_, ?_, ?_, ?_, ?_, ?_, ?_⟩
  · rw [z_sn (by omega), z_sr (show 116 ≠ 99 by decide)]
    exact a1
  · rw [z_sr (show s + 1 ≠ s by omega), z_sr (show 117 ≠ 99 by decide)]
    exact a2
  · rw [z_sr (show s + 2 ≠ s by omega), z_sr (show 116 ≠ 99 by decide), z_sr (show 118 ≠ 99 by decide)]
    exact a3
  · rw [z_sr (show s + 3 ≠ s by omega), z_sr (show 119 ≠ 99 by decide)]
    exact a4
  · rw [z_sr (show s + 4 ≠ s by omega), z_sr (show 120 ≠ 99 by decide)]
    exact a5
  · rw [z_sr (show s + 5 ≠ s by omega), z_sr (show 121 ≠ 99 by decide)]
    exact a6
  · rw [z_sr (show s + 6 ≠ s by omega), z_sr (show 122 ≠ 99 by decide)]
    exact a7
  · rw [z_sn (by omega), z_sr (show 129 ≠ 99 by decide)]
    exact a8
  · rw [z_sr (show s + 7 ≠ s by omega), z_sr (show 130 ≠ 99 by decide)]
    exact a9
  · rw [z_sr (show s + 8 ≠ s by omega), z_sr (show 131 ≠ 99 by decide)]
    exact a10
  · rw [z_ss, z_ss]
    exact ⟨rfl, hv⟩
  · rw [z_sn (by omega), z_sn (by omega)]
    exact a13
  · rw [z_sn (by omega), z_sn (by omega)]
    exact a14
theorem z_Mo_mon {c s nc : Nat} (hc : z_cd c) (hs : z_st s) {S T : v_Sf} (h : z_Mo c s nc S T) {v : Int32} (hv : 0 ≤ v.toInt ∧ v.toInt ≤ 9999) : z_Mo c s nc (z_s S s 11 v) (z_s T 99 60 v) := by
  have hsn := z_stn hs
  have hcn := z_cdn hc
  obtain ⟨a, b1, b3, b4, b5, b6⟩ := h
  have fS : ∀ b, b ≠ s → (z_s S s 11 v) b = S b := fun b q => z_sr q
  have fT : ∀ b, b ≠ 99 → (z_s T 99 60 v) b = T b := fun b q => z_sr q
  refine ⟨z_St_mon hs a hv, ?_, ?_, ?_, ?_, ?_⟩
  · intro w hw
    rw [fS (33 + 2 * w) (by omega), fS (33 + 2 * w + 1) (by omega), fT 127 (by decide), fT 123 (by decide), fT 124 (by decide), fT 125 (by decide), fT 126 (by decide)]
    exact b1 w hw
  · rw [fS 48 (by omega), fT 132 (by decide)]
    exact b3
  · exact z_LawR_t b4 (fS _ (by omega)) (fS _ (by omega)) (fS _ (by omega)) (fS _ (by omega)) (fS _ (by omega)) (fS _ (by omega)) (fun a j q => by rw [fT a (by omega)])
  · rw [z_sn (by omega)]
    exact b5
  · rw [fS 75 (by omega), z_sn (by omega)]
    exact b6
theorem z_Mo_lea {c s nc : Nat} (hc : z_cd c) (hs : z_st s) {S T : v_Sf} (h : z_Mo c s nc S T) {v : Int32} : z_Mo c s nc (z_s S 75 3 v) (z_s T 99 70 v) := by
  have hsn := z_stn hs
  have hcn := z_cdn hc
  obtain ⟨a, b1, b3, b4, b5, b6⟩ := h
  obtain ⟨a1, a2, a3, a4, a5, a6, a7, a8, a9, a10, a12, a13, a14⟩ := a
  refine ⟨⟨?_, ?_, ?_, ?_, ?_, ?_, ?_, ?_, ?_, ?_, ?_, ?_, ?_⟩, ?_, ?_, ?_, ?_, ?_⟩
  · rw [z_sr (by omega), z_sr (by decide)]
    exact a1
  · rw [z_sr (by omega), z_sr (by decide)]
    exact a2
  · rw [z_sr (show s + 2 ≠ 75 by omega), z_sr (show 116 ≠ 99 by decide), z_sr (show 118 ≠ 99 by decide)]
    exact a3
  · rw [z_sr (by omega), z_sr (by decide)]
    exact a4
  · rw [z_sr (by omega), z_sr (by decide)]
    exact a5
  · rw [z_sr (by omega), z_sr (by decide)]
    exact a6
  · rw [z_sr (by omega), z_sr (by decide)]
    exact a7
  · rw [z_sr (by omega), z_sr (by decide)]
    exact a8
  · rw [z_sr (by omega), z_sr (by decide)]
    exact a9
  · rw [z_sr (by omega), z_sr (by decide)]
    exact a10
  · rw [z_sn (by omega), z_sn (by omega)]
    exact a12
  · rw [z_sn (by omega), z_sn (by omega)]
    exact a13
  · rw [z_sn (by omega), z_sn (by omega)]
    exact a14
  · intro w hw
    rw [z_sr (show 33 + 2 * w ≠ 75 by omega), z_sr (show 33 + 2 * w + 1 ≠ 75 by omega), z_sr (show 127 ≠ 99 by decide), z_sr (show 123 ≠ 99 by decide), z_sr (show 124 ≠ 99 by decide), z_sr (show 125 ≠ 99 by decide), z_sr (show 126 ≠ 99 by decide)]
    exact b1 w hw
  · rw [z_sr (show 48 ≠ 75 by decide), z_sr (show 132 ≠ 99 by decide)]
    exact b3
  · exact z_LawR_t b4 (z_sr (by omega)) (z_sr (by omega)) (z_sr (by omega)) (z_sr (by omega)) (z_sr (by omega)) (z_sr (by omega)) (fun a j q => z_sn (by omega))
  · rw [z_sn (by omega)]
    exact b5
  · rw [z_ss, z_ss]
/-! the law asked of a gust -/
theorem z_ofG {c s nc : Nat} (hc : z_cd c) (hs : z_st s) {S T : v_Sf} (h : z_Mo c s nc S T) {g : Nat} (hg : g < 12) (ht : ¬ T 116 g = 0) {L : Int32} (hL : ¬ z_aln L) : f_X3_ofGust c s (z_i g) L S = f_X12_tells L (Int32.ofInt 20) (g_X12_gustStands (z_i g) T) ∧ z_Mo c s nc (g_X3_ofGust c s (z_i g) L S) (g_X12_tells L (Int32.ofInt 20) (g_X12_gustStands (z_i g) T)) ∧ (0 ≤ (f_X12_tells L (Int32.ofInt 20) (g_X12_gustStands (z_i g) T)).toInt ∧ (f_X12_tells L (Int32.ofInt 20) (g_X12_gustStands (z_i g) T)).toInt ≤ 20) ∧ (∀ a, a ≠ 51 → a ≠ c + 3 → g_X3_ofGust c s (z_i g) L S a = S a) ∧ ∀ a j, ¬ (a = 99 ∧ 27 ≤ j ∧ j ≤ 40) → a ≠ 114 → a ≠ 115 → g_X12_tells L (Int32.ofInt 20) (g_X12_gustStands (z_i g) T) a j = T a j := by
  have hsn := z_stn hs
  have hcl := z_cdl hc
  have lk := z_lookG hs h.1 h.2.1 hg ht
  have hv := z_vw_mk lk.2.2.1 (by rw [lk.2.2.2.1, lk.2.1 99 60 (by omega)])
  have h1 : z_Mo c s nc (g_X3_lookAtGust s (z_i g) S) (g_X12_gustStands (z_i g) T) := z_Mo_f h (fun a q => lk.1 a (by omega)) (fun j _ => by rw [lk.1 s (by omega)]) (by rw [lk.1 75 (by decide)]) (fun a j q => lk.2.1 a j (by omega))
  have am := z_amount hc (L := L) (most := Int32.ofInt 20) hL (by decide) h1.2.2.2.1 h1.2.2.2.2.1 hv
  have fS : ∀ a, a ≠ 51 → a ≠ c + 3 → g_X3_ofGust c s (z_i g) L S a = S a := fun a q1 q2 => (am.2.1 a q2).trans (lk.1 a q1)
  have fT : ∀ a j, ¬ (a = 99 ∧ 27 ≤ j ∧ j ≤ 40) → a ≠ 114 → a ≠ 115 → g_X12_tells L (Int32.ofInt 20) (g_X12_gustStands (z_i g) T) a j = T a j := fun a j q1 q2 q3 => by
    rw [am.2.2 a q2 q3]
    exact lk.2.1 a j q1
  exact ⟨am.1, z_Mo_f h (fun a q => fS a (by omega) (by omega)) (fun j _ => by rw [fS s (by omega) (by omega)]) (by rw [fS 75 (by decide) (by omega)]) (fun a j q => fT a j (by omega) (by omega) (by omega)), z_tells_r (by decide) _ _ _, fS, fT⟩
noncomputable def z_fj (A : Nat → Nat → Prop) (S S' : v_Sf) : Prop := ∀ a j, ¬ A a j → S' a j = S a j
theorem z_fj_t {A : Nat → Nat → Prop} {S S' S'' : v_Sf} (h1 : z_fj A S S') (h2 : z_fj A S' S'') : z_fj A S S'' := fun a j q => (h2 a j q).trans (h1 a j q)
noncomputable def z_mc (c s a j : Nat) : Prop := a = 51 ∨ a = c + 3 ∨ a = s + 1 ∨ a = s + 3 ∨ a = s + 6 ∨ a = s ∧ (j = 12 ∨ j = 13) ∨ a = 75 ∧ j = 3
noncomputable def z_mm (a j : Nat) : Prop := a = 99 ∧ (27 ≤ j ∧ j ≤ 40 ∨ j = 61 ∨ j = 62 ∨ 70 ≤ j ∧ j ≤ 76) ∨ a = 114 ∨ a = 115 ∨ a = 117 ∨ a = 119 ∨ a = 122
/-- alike, and what has changed since -/
noncomputable def z_R (c s nc : Nat) (S0 T0 S T : v_Sf) : Prop := z_Mo c s nc S T ∧ z_fj (z_mc c s) S0 S ∧ z_fj z_mm T0 T
theorem z_R_i {c s nc : Nat} {S0 T0 S T S' T' : v_Sf} (h : z_R c s nc S0 T0 S T) (h1 : z_Mo c s nc S' T') (f1 : z_fj (z_mc c s) S S') (f2 : z_fj z_mm T T') : z_R c s nc S0 T0 S' T' := ⟨h1, z_fj_t h.2.1 f1, z_fj_t h.2.2 f2⟩
theorem z_na {c : Int32} (h1 : ¬ c = Int32.ofInt 101) (h2 : ¬ c = Int32.ofInt 120) : ¬ z_aln c := fun q => q.elim h1 h2
theorem z_weaken_l {c s nc : Nat} (hc : z_cd c) (hs : z_st s) {S0 T0 : v_Sf} : ∀ (r k : Nat) (S T : v_Sf), r + k = 12 → z_R c s nc S0 T0 S T → z_R c s nc S0 T0 (r_X0_weaken_26 c s r k S) (r_X12_weakens_22 r k T) := by
  have hsn := z_stn hs
  have hcl := z_cdl hc
  intro r
  induction r with
  | zero =>
    intro k S T _ h
    rw [r_X0_weaken_26, r_X12_weakens_22]
    exact h
  | succ r ih =>
    intro k S T hk h0
    have h := h0.1
    have ek : (z_i k).toInt.toNat = k := z_iin (by omega)
    rw [r_X0_weaken_26, r_X12_weakens_22, ek]
    by_cases ht : T 116 k = 0
    · rw [if_pos ((z_hasG2 h.1 (by omega)).mpr ht), if_neg (not_not_intro ht)]
      exact ih (k + 1) S T (by omega) h0
    · rw [if_neg (fun q => ht ((z_hasG2 h.1 (by omega)).mp q)), if_pos ht]
      obtain ⟨o1, o2, o3, o4, o5⟩ := z_ofG hc hs h (g := k) (by omega) ht (L := Int32.ofInt 103) (z_na (by decide) (by decide))
      have st := h.1.2.1 k (by omega)
      have lk := z_lookG hs h.1 h.2.1 (g := k) (by omega) ht
      rw [o1, st.1, lk.2.1 117 k (by omega)]
      have w := z_weakN st.2 o3
      rw [w.1]
      exact ih (k + 1) _ _ (by omega) (z_R_i h0 (z_Mo_str hc hs o2 k w.2) (fun a j q => by unfold z_mc at q; rw [z_sn (by omega), o4 a (by omega) (by omega)]) (fun a j q => by unfold z_mm at q; rw [z_sn (by omega), o5 a j (by omega) (by omega) (by omega)]))
theorem z_feed_l {c s nc : Nat} (hc : z_cd c) (hs : z_st s) {S0 T0 : v_Sf} {w : Nat} (hw : w < 6) : ∀ (r k : Nat) (S T : v_Sf) (u : Int32), r + k = 12 → u = T 124 w → z_R c s nc S0 T0 S T → z_R c s nc S0 T0 (r_X0_strengthen_3 c s (z_i w) u r k S) (r_X12_feeds_2 (z_i w) r k T) := by
  have hsn := z_stn hs
  have hcl := z_cdl hc
  have ew : (z_i w).toInt.toNat = w := z_iin (by omega)
  intro r
  induction r with
  | zero =>
    intro k S T u _ _ h
    rw [r_X0_strengthen_3, r_X12_feeds_2]
    exact h
  | succ r ih =>
    intro k S T u hk hu h0
    have h := h0.1
    have ek : (z_i k).toInt.toNat = k := z_iin (by omega)
    rw [r_X0_strengthen_3, r_X12_feeds_2, ew, ← hu, ek]
    by_cases g0 : u ≤ 0
    · rw [if_pos g0, if_pos g0]
      exact h0
    · rw [if_neg g0, if_neg g0]
      have wd := h.1.2.2.2.2.1 k (by omega)
      by_cases ht : T 116 k = 0
      · rw [if_pos ((z_hasG2 h.1 (by omega)).mpr ht), if_neg (by unfold f_X12_isIn; rw [ek, if_pos ht]; decide)]
        exact ih (k + 1) S T u (by omega) hu h0
      · rw [if_neg (fun q => ht ((z_hasG2 h.1 (by omega)).mp q)), wd.1]
        by_cases hin : T 120 k = z_i w
        · rw [if_neg (not_not_intro hin), if_pos (by unfold f_X12_isIn; rw [ek, if_neg ht, if_neg (not_not_intro hin)]; decide)]
          obtain ⟨o1, o2, o3, o4, o5⟩ := z_ofG hc hs h (g := k) (by omega) ht (L := Int32.ofInt 102) (z_na (by decide) (by decide))
          have st := h.1.2.1 k (by omega)
          have lk := z_lookG hs h.1 h.2.1 (g := k) (by omega) ht
          rw [o1, st.1, lk.2.1 117 k (by omega)]
          have w2 := z_feedN st.2 o3
          rw [w2.1]
          exact ih (k + 1) _ _ u (by omega) (by rw [z_sn (by omega), o5 124 w (by omega) (by omega) (by omega)]; exact hu) (z_R_i h0 (z_Mo_str hc hs o2 k w2.2) (fun a j q => by unfold z_mc at q; rw [z_sn (by omega), o4 a (by omega) (by omega)]) (fun a j q => by unfold z_mm at q; rw [z_sn (by omega), o5 a j (by omega) (by omega) (by omega)]))
        · rw [if_pos hin, if_neg (by unfold f_X12_isIn; rw [ek, if_neg ht, if_pos hin]; decide)]
          exact ih (k + 1) S T u (by omega) hu h0
theorem z_break_l {c s nc : Nat} (hc : z_cd c) (hs : z_st s) {S0 T0 : v_Sf} : ∀ (r k : Nat) (S T : v_Sf), r + k = 12 → z_R c s nc S0 T0 S T → z_R c s nc S0 T0 (r_X0_breakToys_2 c s r k S) (r_X12_breaks_2 r k T) := by
  have hsn := z_stn hs
  have hcl := z_cdl hc
  intro r
  induction r with
  | zero =>
    intro k S T _ h
    rw [r_X0_breakToys_2, r_X12_breaks_2]
    exact h
  | succ r ih =>
    intro k S T hk h0
    have h := h0.1
    have ek : (z_i k).toInt.toNat = k := z_iin (by omega)
    rw [r_X0_breakToys_2, r_X12_breaks_2, ek]
    by_cases ht : T 116 k = 0
    · rw [if_pos ((z_hasG2 h.1 (by omega)).mpr ht), if_neg (not_not_intro ht)]
      exact ih (k + 1) S T (by omega) h0
    · rw [if_neg (fun q => ht ((z_hasG2 h.1 (by omega)).mp q)), if_pos ht]
      obtain ⟨o1, o2, o3, o4, o5⟩ := z_ofG hc hs h (g := k) (by omega) ht (L := Int32.ofInt 98) (z_na (by decide) (by decide))
      rw [o1, h.1.2.2.2.2.2.2.2.2.2.2.2.1, o5 99 61 (by omega) (by omega) (by omega)]
      refine ih (k + 1) _ _ (by omega) (z_R_i h0 (z_Mo_f (z_Mo_toy hc hs o2 (v := T 99 61 + f_X12_tells (Int32.ofInt 98) (Int32.ofInt 20) (g_X12_gustStands (z_i k) T))) (fun _ _ => rfl) (fun _ _ => rfl) rfl (fun a j q => z_sn (by omega))) (fun a j q => by unfold z_mc at q; rw [z_sn (by omega), o4 a (by omega) (by omega)]) (fun a j q => by unfold z_mm at q; rw [z_sn (by omega), z_sn (by omega), o5 a j (by omega) (by omega) (by omega)]))
