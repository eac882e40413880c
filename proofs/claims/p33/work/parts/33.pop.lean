/-! sizeOf, has, takesSome, takesPlaces, bitCount -/
def v_fsM : List v_Ft := [.inr (.inl 101), .inl (0, 260), .inl (0, 65535), .inl (0, 1000), .inl (0, 260), .inl ((-2147483648), 2147483647), .inl (0, 16), .inl (0, 240), .inl ((-2147483648), 2147483647), .inl (0, 240), .inr (.inl 102), .inr (.inl 103), .inr (.inl 104), .inr (.inl 105), .inr (.inl 106), .inr (.inl 107), .inl (0, 16), .inl (0, 12), .inr (.inl 108), .inr (.inl 109), .inr (.inl 110), .inr (.inl 111), .inr (.inl 112), .inr (.inl 113), .inl (0, 1), .inl (0, 1), .inr (.inl 114), .inl ((-2147483648), 2147483647), .inl ((-2147483648), 2147483647), .inl ((-2147483648), 2147483647), .inl ((-2147483648), 2147483647), .inl ((-2147483648), 2147483647), .inl ((-2147483648), 2147483647), .inl ((-2147483648), 2147483647), .inl ((-2147483648), 2147483647), .inl ((-2147483648), 2147483647), .inl ((-2147483648), 2147483647), .inl ((-2147483648), 2147483647), .inl ((-2147483648), 2147483647), .inl ((-2147483648), 2147483647), .inl ((-2147483648), 2147483647), .inr (.inl 115), .inr (.inl 116), .inr (.inl 117), .inr (.inl 118), .inr (.inl 119), .inr (.inl 120), .inr (.inl 121), .inr (.inl 122), .inr (.inl 123), .inr (.inl 124), .inr (.inl 125), .inr (.inl 126), .inr (.inl 127), .inr (.inl 128), .inr (.inl 129), .inr (.inl 130), .inr (.inl 131), .inr (.inl 132), .inr (.inl 133), .inl (0, 9999), .inl ((-2147483648), 2147483647), .inl ((-2147483648), 2147483647), .inr (.inl 134), .inl (0, 48), .inl (0, 2), .inl (0, 1), .inr (.inl 135), .inr (.inl 136), .inr (.inl 137), .inl ((-2147483648), 2147483647), .inl ((-2147483648), 2147483647), .inl ((-2147483648), 2147483647), .inl ((-2147483648), 2147483647), .inl ((-2147483648), 2147483647), .inl ((-2147483648), 2147483647), .inl ((-2147483648), 2147483647), .inr (.inl 138), .inr (.inl 139), .inr (.inl 140), .inr (.inl 141), .inr (.inl 142), .inr (.inl 143), .inr (.inl 144), .inr (.inl 145), .inr (.inl 146), .inr (.inl 147), .inr (.inl 148), .inr (.inl 149), .inr (.inl 150), .inr (.inl 151), .inr (.inl 152), .inl (0, 1), .inr (.inl 153), .inr (.inl 154), .inr (.inl 155), .inr (.inl 156), .inr (.inl 157), .inr (.inl 158), .inr (.inl 159), .inl ((-2147483648), 2147483647), .inl ((-2147483648), 2147483647), .inl ((-2147483648), 2147483647), .inl ((-2147483648), 2147483647), .inr (.inl 160), .inr (.inl 161), .inr (.inl 162), .inl (0, 10), .inr (.inl 163), .inr (.inl 164), .inr (.inl 165), .inr (.inl 166), .inr (.inl 167), .inr (.inl 168), .inr (.inl 169), .inr (.inl 170), .inr (.inl 171), .inr (.inl 172), .inr (.inl 173)]
theorem v_tyM : v_ty 99 = some (.inr (.inr (12, v_fsM))) := rfl
noncomputable abbrev m_X12_sizeOf : g_M := (g_cn 12, yX12_sizeOf, cX12_sizeOf, 3, (some .int), g_look2 ttX12_sizeOf)
set_option maxRecDepth 20000 in
theorem mt_X12_sizeOf : g_mt 162 = some m_X12_sizeOf := rfl
noncomputable abbrev m_X12_has : g_M := (g_cn 12, yX12_has, cX12_has, 2, (some .boolean), g_look2 ttX12_has)
set_option maxRecDepth 20000 in
theorem mt_X12_has : g_mt 161 = some m_X12_has := rfl
noncomputable abbrev m_X12_takesSome : g_M := (g_cn 12, yX12_takesSome, cX12_takesSome, 4, (some .int), g_look2 ttX12_takesSome)
set_option maxRecDepth 20000 in
theorem mt_X12_takesSome : g_mt 251 = some m_X12_takesSome := rfl
noncomputable abbrev m_X12_takesPlaces : g_M := (g_cn 12, yX12_takesPlaces, cX12_takesPlaces, 4, (some .int), g_look2 ttX12_takesPlaces)
set_option maxRecDepth 20000 in
theorem mt_X12_takesPlaces : g_mt 256 = some m_X12_takesPlaces := rfl
noncomputable abbrev m_J6_bitCount_0f7a4 : g_M := (g_cn 14, yJ6_bitCount_0f7a4, cJ6_bitCount_0f7a4, 1, (some .int), g_look2 ttJ6_bitCount_0f7a4)
set_option maxRecDepth 20000 in
theorem mt_J6_bitCount_0f7a4 : g_mt 299 = some m_J6_bitCount_0f7a4 := rfl
theorem v_popN_s : ∀ (f n : Nat), v_popN (f + 1) n = v_popN f n + n / 2 ^ f % 2
  | 0, n => by simp [v_popN]
  | f + 1, n => by
    show n % 2 + v_popN (f + 1) (n / 2) = n % 2 + v_popN f (n / 2) + n / 2 ^ (f + 1) % 2
    rw [v_popN_s f (n / 2), Nat.div_div_eq_div_mul, Nat.pow_succ, Nat.mul_comm 2 (2 ^ f)]
    omega
theorem v_popN_big : ∀ (k f n : Nat), n < 2 ^ f → v_popN (f + k) n = v_popN f n
  | 0, f, n, _ => rfl
  | k + 1, f, n, h => by
    show v_popN ((f + k) + 1) n = v_popN f n
    rw [v_popN_s, v_popN_big k f n h]
    have : n < 2 ^ (f + k) := Nat.lt_of_lt_of_le h (Nat.pow_le_pow_right (by omega) (by omega))
    rw [Nat.div_eq_of_lt this]
    rfl
theorem v_and2 (a b : Nat) : (a &&& b) / 2 = (a / 2) &&& (b / 2) := by
  have := Nat.and_div_two_pow (a := a) (b := b) (n := 1)
  simpa using this
theorem v_andm (a b : Nat) : (a &&& b) % 2 = (a % 2) &&& (b % 2) := by
  have := Nat.and_mod_two_pow (a := a) (b := b) (n := 1)
  simpa using this
theorem v_popN_and : ∀ (f a b : Nat), v_popN f (a &&& b) ≤ v_popN f a
  | 0, _, _ => Nat.le_refl _
  | f + 1, a, b => by
    show (a &&& b) % 2 + v_popN f ((a &&& b) / 2) ≤ a % 2 + v_popN f (a / 2)
    have h1 := v_popN_and f (a / 2) (b / 2)
    rw [v_and2, v_andm]
    have h2 : (a % 2) &&& (b % 2) ≤ a % 2 := Nat.and_le_left
    omega
theorem v_popN_dec : ∀ (f n : Nat), 0 < n → n < 2 ^ f → v_popN f (n &&& (n - 1)) + 1 = v_popN f n
  | 0, n, h1, h2 => by simp at h2; omega
  | f + 1, n, h1, h2 => by
    show (n &&& (n - 1)) % 2 + v_popN f ((n &&& (n - 1)) / 2) + 1 = n % 2 + v_popN f (n / 2)
    rw [v_and2, v_andm]
    by_cases hn : n % 2 = 0
    · have e1 : (n - 1) / 2 = n / 2 - 1 := by omega
      have ih := v_popN_dec f (n / 2) (by omega) (by rw [Nat.pow_succ] at h2; omega)
      rw [e1, hn, Nat.zero_and]
      omega
    · have e1 : (n - 1) / 2 = n / 2 := by omega
      have e2 : (n - 1) % 2 = 0 := by omega
      have e3 : n % 2 = 1 := by omega
      rw [e1, e2, e3, Nat.and_zero, Nat.and_self]
      omega
section HS
variable {L : Nat} {xs : Nat → Int32} {d : Nat} {S : v_Sf} {R : v_Rf} {Q : Option Value → v_Sf → v_Rf → Prop}
theorem h_sizeOf1 (a v n : Int32) (k1 : v = 0 → Q (some (.int n)) S R) (k2 : ¬ v = 0 → w_T L xs d m_X12_sizeOf 4 [(2, .int (v &&& (v - 1))), (1, .int (n + 1)), (0, .int a)] [] S R Q) : w_T L xs d m_X12_sizeOf 4 [(2, .int v), (1, .int n), (0, .int a)] [] S R Q := by
  refine w_st rfl (fun _ => rfl) ?_
  show w_T L xs d m_X12_sizeOf 5 [(2, .int v), (1, .int n), (0, .int a)] [.int v] S R Q
  refine w_br (P := v = 0) rfl (fun _ => rfl) (fun h5 => ?_) (fun h5 => ?_)
  · refine w_st rfl (fun _ => rfl) ?_
    show w_T L xs d m_X12_sizeOf 21 [(2, .int v), (1, .int n), (0, .int a)] [.int n] S R Q
    refine w_ret rfl rfl ?_
    exact k1 h5
  · refine w_st rfl (fun _ => rfl) ?_
    refine w_st rfl (fun _ => rfl) ?_
    refine w_st rfl (fun _ => rfl) ?_
    refine w_st rfl (fun _ => rfl) ?_
    refine w_st rfl (fun _ => rfl) ?_
    refine w_st rfl (fun _ => rfl) ?_
    refine w_st rfl (fun _ => rfl) ?_
    refine w_st rfl (fun _ => rfl) ?_
    show w_T L xs d m_X12_sizeOf 4 [(2, .int (v &&& (v - (Int32.ofInt 1)))), (1, .int (n + Int32.ofInt 1)), (0, .int a)] [] S R Q
    exact k2 h5
theorem h_sizeOf2 (a : Int32) : ∀ (m : Nat) (v : Int32) (n : Nat), v_popN 32 v.toBitVec.toNat = m → Q (some (.int (Int32.ofInt ((n + m : Nat) : Int)))) S R → w_T L xs d m_X12_sizeOf 4 [(2, .int v), (1, .int (Int32.ofInt (n : Int))), (0, .int a)] [] S R Q := by
  intro m
  induction m with
  | zero =>
    intro v n hm hq
    refine h_sizeOf1 a v _ (fun _ => hq) (fun hv => ?_)
    exfalso
    have h1 : 0 < v.toBitVec.toNat := by
      rcases Nat.eq_zero_or_pos v.toBitVec.toNat with h | h
      · exact absurd (Int32.toBitVec_inj.mp (BitVec.eq_of_toNat_eq h)) hv
      · exact h
    have := v_popN_pos 32 _ v.toBitVec.isLt h1
    omega
  | succ m ih =>
    intro v n hm hq
    refine h_sizeOf1 a v _ (fun hv => ?_) (fun hv => ?_)
    · subst hv
      have : v_popN 32 (0 : Int32).toBitVec.toNat = 0 := by decide
      omega
    · have h1 : 0 < v.toBitVec.toNat := by
        rcases Nat.eq_zero_or_pos v.toBitVec.toNat with h | h
        · exact absurd (Int32.toBitVec_inj.mp (BitVec.eq_of_toNat_eq h)) hv
        · exact h
      have e1 : (v &&& (v - 1)).toBitVec.toNat = v.toBitVec.toNat &&& (v.toBitVec.toNat - 1) := by
        rw [Int32.toBitVec_and, BitVec.toNat_and, Int32.toBitVec_sub, BitVec.toNat_sub]
        have e : (1 : Int32).toBitVec.toNat = 1 := rfl
        rw [e]
        have hl := v.toBitVec.isLt
        have e8 : (2 ^ 32 - 1 + v.toBitVec.toNat) % 2 ^ 32 = v.toBitVec.toNat - 1 := by omega
        rw [e8]
      have e2 := v_popN_dec 32 v.toBitVec.toNat h1 v.toBitVec.isLt
      have e3 : Int32.ofInt (n : Int) + 1 = Int32.ofInt ((n + 1 : Nat) : Int) := by
        have : (1 : Int32) = Int32.ofInt 1 := rfl
        rw [this, ← Int32.ofInt_add]
        rfl
      rw [e3]
      refine ih (v &&& (v - 1)) (n + 1) (by rw [e1]; omega) ?_
      rw [show n + 1 + m = n + (m + 1) by omega]
      exact hq
theorem h_sizeOf (v : Int32) (hq : Q (some (.int (v_pop v))) S R) : w_T L xs d m_X12_sizeOf 0 (lv_args 0 [.int v]) [] S R Q := by
  refine w_st rfl (fun _ => rfl) ?_
  refine w_st rfl (fun _ => rfl) ?_
  refine w_st rfl (fun _ => rfl) ?_
  refine w_st rfl (fun _ => rfl) ?_
  show w_T L xs d m_X12_sizeOf 4 [(2, .int v), (1, .int (Int32.ofInt 0)), (0, .int v)] [] S R Q
  refine h_sizeOf2 v _ v 0 rfl ?_
  rw [Nat.zero_add]
  exact hq
theorem h_has (s g : Int32) (hq : Q (some (.int (if (s >>> (g &&& 31)) &&& 1 = 1 then 1 else 0))) S R) : w_T L xs d m_X12_has 0 (lv_args 0 [.int s, .int g]) [] S R Q := by
  refine w_st rfl (fun _ => rfl) ?_
  refine w_st rfl (fun _ => rfl) ?_
  refine w_st rfl (fun _ => rfl) ?_
  refine w_st rfl (fun _ => rfl) ?_
  refine w_st rfl (fun _ => rfl) ?_
  refine w_st rfl (fun _ => rfl) ?_
  show w_T L xs d m_X12_has 6 [(0, .int s), (1, .int g)] [.int (Int32.ofInt 1), .int ((s >>> (g &&& 31)) &&& (Int32.ofInt 1))] S R Q
  refine w_br (P := ¬ ((s >>> (g &&& 31)) &&& (Int32.ofInt 1)) = (Int32.ofInt 1)) rfl (fun _ => rfl) (fun h6 => ?_) (fun h6 => ?_)
  · have h6 : ¬ (s >>> (g &&& 31)) &&& 1 = 1 := h6
    refine w_st rfl (fun _ => rfl) ?_
    show w_T L xs d m_X12_has 14 [(0, .int s), (1, .int g)] [.int (Int32.ofInt 0)] S R Q
    refine w_ret rfl (by rfl) ?_
    first | (rw [if_neg h6] at hq; exact hq) | (rw [if_pos (Decidable.of_not_not h6)] at hq; exact hq)
  · have h6 : ¬ ¬ (s >>> (g &&& 31)) &&& 1 = 1 := h6
    refine w_st rfl (fun _ => rfl) ?_
    refine w_st rfl (fun _ => rfl) ?_
    show w_T L xs d m_X12_has 14 [(0, .int s), (1, .int g)] [.int (Int32.ofInt 1)] S R Q
    refine w_ret rfl (by rfl) ?_
    first | (rw [if_neg h6] at hq; exact hq) | (rw [if_pos (Decidable.of_not_not h6)] at hq; exact hq)
theorem v_sm31 : ∀ k : Fin 32, ((Int32.ofInt ((k : Nat) : Int) &&& 31).toBitVec.smod 32).toNat = (k : Nat) := by decide
theorem h_bit (s g : Int32) (h1 : 0 ≤ s.toInt) (h2 : 0 ≤ g.toInt) (h3 : g.toInt ≤ 31) : (if (s >>> (g &&& 31)) &&& 1 = 1 then (1 : Int32) else 0) = Int32.ofInt ((s.toInt.toNat / 2 ^ g.toInt.toNat % 2 : Nat) : Int) := by
  have eg : g = Int32.ofInt ((g.toInt.toNat : Nat) : Int) := by
    rw [show ((g.toInt.toNat : Nat) : Int) = g.toInt by omega, q_of]
  have hk := v_sm31 ⟨g.toInt.toNat, by omega⟩
  dsimp only at hk
  rw [← eg] at hk
  have ew : (s >>> (g &&& 31)).toInt = s.toInt / ((2 ^ g.toInt.toNat : Nat) : Int) := by
    show (s >>> (g &&& 31)).toBitVec.toInt = _
    rw [Int32.toBitVec_shiftRight, BitVec.sshiftRight_eq', BitVec.toInt_sshiftRight, hk, Int.shiftRight_eq_div_pow]
    rfl
  have hw := v_shr_ok (x := s) (g &&& 31) h1
  generalize s >>> (g &&& 31) = w at ew hw ⊢
  obtain ⟨e1, l1⟩ := v_nn (x := w) hw.1
  have e2 : w.toBitVec.toNat = s.toInt.toNat / 2 ^ g.toInt.toNat := by
    have e3 : s.toInt = ((s.toInt.toNat : Nat) : Int) := by omega
    rw [e3, ← Int.natCast_ediv] at ew
    omega
  have e4 : (w &&& 1).toBitVec.toNat = w.toBitVec.toNat % 2 := by
    rw [Int32.toBitVec_and, BitVec.toNat_and]
    exact Nat.and_one_is_mod _
  rw [← e2]
  by_cases hm : w.toBitVec.toNat % 2 = 0
  · rw [hm] at e4
    have : w &&& 1 = 0 := Int32.toBitVec_inj.mp (BitVec.eq_of_toNat_eq e4)
    rw [this, hm, if_neg (by decide)]
    rfl
  · have hm1 : w.toBitVec.toNat % 2 = 1 := by omega
    rw [hm1] at e4
    have : w &&& 1 = 1 := Int32.toBitVec_inj.mp (BitVec.eq_of_toNat_eq e4)
    rw [this, hm1, if_pos rfl]
    rfl
end HS
