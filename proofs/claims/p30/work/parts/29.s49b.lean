/-! nursed: the answers -/
theorem z_illB {c s nc : Nat} (hc : z_cd c) (hs : z_st s) {S T : v_Sf} (h : z_Bs c s nc S T) {w n : Nat} (hw : w < 6) (hn : n < 5) (ht : ¬ T 129 n = 0) : f_X3_illness c s (z_i w) (z_i n) S = f_X12_falling (z_i n) (z_i w) T ∧ z_Bs c s nc (g_X3_illness c s (z_i w) (z_i n) S) (g_X12_falling (z_i n) (z_i w) T) ∧ (∀ a, a ≠ 51 → a ≠ c + 3 → g_X3_illness c s (z_i w) (z_i n) S a = S a) ∧ ∀ a j, ¬ (a = 99 ∧ 27 ≤ j ∧ j ≤ 40) → a ≠ 114 → a ≠ 115 → g_X12_falling (z_i n) (z_i w) T a j = T a j := by
  have hsn := z_stn hs
  have hcl := z_cdl hc
  have en : (z_i n).toInt.toNat = n := z_iin (by omega)
  have lk := z_lookW hs hw S
  have no := z_noth T
  have mo := h.1.2.2.2.2.2.2.2.2.2.2.1
  have as := h.1.2.2.2.2.2.2.2.2.1 n hn
  have my := z_many0 h.1.1 h.1.2.2.2.2.1 (z_i w)
  generalize hL : g_X3_lookAtWard s (z_i w) S = L at lk
  generalize hN : g_X12_nothingStands T = N at no
  generalize hS1 : z_s (z_s (z_s (z_s L 51 11 (Int32.ofInt 0)) 51 12 (Int32.ofInt 0)) 51 13 (Int32.ofInt 0)) 51 9 (T 130 n) = S1
  generalize hT1 : z_s (z_s (z_s N 99 32 (z_i w)) 99 36 (T 130 n)) 99 37 (f_X12_manyIn (z_i w) T) = T1
  have E1 : f_X3_illness c s (z_i w) (z_i n) S = f_X3_firstAmount c (Int32.ofInt 105) (Int32.ofInt 10) S1 ∧ g_X3_illness c s (z_i w) (z_i n) S = g_X3_firstAmount c (Int32.ofInt 105) (Int32.ofInt 10) S1 := by
    have hh : ¬ f_X7_hasNurse s (z_i n) (z_s (z_s (z_s L 51 11 (Int32.ofInt 0)) 51 12 (Int32.ofInt 0)) 51 13 (Int32.ofInt 0)) = 0 := by
      intro q
      have q2 : f_X7_hasNurse s (z_i n) S = 0 := by
        unfold f_X7_hasNurse at q ⊢
        rw [z_sn (by omega), z_sn (by omega), z_sn (by omega), lk.1 s (by omega)] at q
        exact q
      exact ht ((z_hasN h.1.2.2.2.2.2.2.2.1 hn).mp q2)
    unfold f_X3_illness g_X3_illness
    rw [hL, if_neg hh, if_neg hh, lk.1 (s + 7) (by omega), en, as.1, hS1]
    exact ⟨rfl, rfl⟩
  have E2 : f_X12_falling (z_i n) (z_i w) T = f_X12_tells (Int32.ofInt 105) (Int32.ofInt 10) T1 ∧ g_X12_falling (z_i n) (z_i w) T = g_X12_tells (Int32.ofInt 105) (Int32.ofInt 10) T1 := by
    have em : f_X12_manyIn (z_i w) (z_s (z_s N 99 32 (z_i w)) 99 36 (T 130 n)) = f_X12_manyIn (z_i w) T := z_man_c (funext fun j => by rw [z_sn (by omega), z_sn (by omega), no.1 _ _ (by omega)]) (funext fun j => by rw [z_sn (by omega), z_sn (by omega), no.1 _ _ (by omega)]) _
    unfold f_X12_falling g_X12_falling
    rw [hN, en, no.1 130 n (by omega), em, hT1]
    exact ⟨rfl, rfl⟩
  have f1 : ∀ a, a ≠ 51 → S1 a = S a := by
    intro a q
    rw [← hS1]
    exact (z_sr q).trans ((z_sr q).trans ((z_sr q).trans ((z_sr q).trans (lk.1 a q))))
  have f2 : ∀ a j, ¬ (a = 99 ∧ 27 ≤ j ∧ j ≤ 40) → T1 a j = T a j := by
    intro a j q
    rw [← hT1, z_sn (by omega), z_sn (by omega), z_sn (by omega), no.1 a j q]
  have hv : z_vw (fun a => f_X1_valueAt a S1) (fun a => f_X12_valueOf a T1) := by
    refine z_vw_mk (fun i hi => ?_) ?_
    · rw [← hS1, ← hT1]
      have cs : i = 5 ∨ i = 9 ∨ i = 10 ∨ i = 11 ∨ i = 12 ∨ i = 13 ∨ (i < 11 ∧ i ≠ 5 ∧ i ≠ 9 ∧ i ≠ 10) := by omega
      rcases cs with rfl | rfl | rfl | rfl | rfl | rfl | q
      · rw [z_sn (by omega), z_sn (by omega), z_sn (by omega), z_sn (by omega), lk.2.2.1, z_sn (by omega), z_sn (by omega), z_ss]
      · rw [z_ss, z_sn (by omega), z_ss]
      · rw [z_sn (by omega), z_sn (by omega), z_sn (by omega), z_sn (by omega), lk.2.2.2.1, z_ss, my.2]
      · rw [z_sn (by omega), z_sn (by omega), z_sn (by omega), z_ss, z_sn (by omega), z_sn (by omega), z_sn (by omega), no.2 _ (by omega) (by omega)]
      · rw [z_sn (by omega), z_sn (by omega), z_ss, z_sn (by omega), z_sn (by omega), z_sn (by omega), no.2 _ (by omega) (by omega)]
      · rw [z_sn (by omega), z_ss, z_sn (by omega), z_sn (by omega), z_sn (by omega), no.2 _ (by omega) (by omega)]
      · rw [z_sn (by omega), z_sn (by omega), z_sn (by omega), z_sn (by omega), lk.2.1 i (by omega) (by omega), z_sn (by omega), z_sn (by omega), z_sn (by omega), no.2 _ (by omega) (by omega)]
    · rw [f2 99 60 (by omega), ← hS1, z_sn (by omega), z_sn (by omega), z_sn (by omega), z_sn (by omega), lk.2.2.2.2, mo.1]
  have h1 : z_Bs c s nc S1 T1 := z_Bs_f h (fun a q => f1 a (by omega)) (fun j _ => by rw [f1 s (by omega)]) (fun a j q => f2 a j (by omega))
  have am := z_amount hc (L := Int32.ofInt 105) (most := Int32.ofInt 10) (z_na (by decide) (by decide)) (by decide) h1.2.2.2.1 h1.2.2.2.2 hv
  rw [E1.1, E1.2, E2.1, E2.2]
  exact ⟨am.1, z_Bs_f h1 (fun a q => am.2.1 a (by omega)) (fun j _ => by rw [am.2.1 s (by omega)]) (fun a j q => by rw [am.2.2 a (by omega) (by omega)]), fun a q1 q2 => (am.2.1 a q2).trans (f1 a q1), fun a j q1 q2 q3 => by rw [am.2.2 a q2 q3]; exact f2 a j q1⟩
theorem z_spr77 {X : Nat} (h8 : z_cn X 12 ≤ 8) : ∀ (r k : Nat) (U : v_Sf), k + r = 12 → ∃ W, r_spread77_4 (z_i X) r k (z_i (z_cn X k)) U = (z_i (z_cn X 12), W) ∧ (∀ i, i < z_cn X k → W 77 i = U 77 i) ∧ (∀ j, k ≤ j → j < 12 → X.testBit j = true → W 77 (z_cn X j) = z_i j) ∧ (∀ a j, a ≠ 77 → W a j = U a j) := by
  intro r
  induction r with
  | zero =>
    intro k U hk
    obtain rfl : k = 12 := by omega
    exact ⟨U, by rw [r_spread77_4], fun i _ => rfl, fun j h1 h2 => by omega, fun a j _ => rfl⟩
  | succ r ih =>
    intro k U hk
    have hm := z_cn_le X (12 - k) k
    rw [show k + (12 - k) = 12 by omega] at hm
    have hc1 : z_cn X (k + 1) = z_cn X k + (if X.testBit k then 1 else 0) := rfl
    rw [r_spread77_4]
    by_cases q : z_cn X k = 8
    · rw [if_pos (by rw [q]; decide)]
      refine ⟨U, by rw [show z_cn X k = z_cn X 12 by omega], fun i _ => rfl, fun j h1 h2 h3 => ?_, fun a j _ => rfl⟩
      have := z_cn_lt h2 h3
      have := z_cn_le X (j - k) k
      rw [show k + (j - k) = j by omega] at this
      omega
    · rw [if_neg (by rw [show Int32.ofNat 8 = z_i 8 by decide, z_ile (by omega) (by omega)]; omega)]
      have hI := z_isInN (X := X) (g := k) (by omega)
      by_cases t : X.testBit k = true
      · rw [if_pos t] at hc1
        rw [if_neg (fun m => by rw [hI.mp m] at t; cases t), z_iin (show z_cn X k < 2147483648 by omega), show z_i (z_cn X k) + Int32.ofInt 1 = z_i (z_cn X (k + 1)) by rw [hc1]; exact z_i1 _]
        obtain ⟨W, w1, w2, w3, w4⟩ := ih (k + 1) (z_s U 77 (z_cn X k) (z_i k)) (by omega)
        refine ⟨W, w1, fun i hi => ?_, fun j h1 h2 h3 => ?_, fun a j h1 => ?_⟩
        · rw [w2 i (by omega), z_sn (by omega)]
        · by_cases e : j = k
          · rw [e, w2 _ (by omega), z_ss]
          · exact w3 j (by omega) h2 h3
        · rw [w4 a j h1, z_sn (by omega)]
      · have t2 : X.testBit k = false := by simpa using t
        rw [if_neg t] at hc1
        rw [if_pos (hI.mpr t2), show z_cn X k = z_cn X (k + 1) by omega]
        obtain ⟨W, w1, w2, w3, w4⟩ := ih (k + 1) U (by omega)
        refine ⟨W, w1, w2, fun j h1 h2 h3 => ?_, w4⟩
        by_cases e : j = k
        · rw [e] at h3
          exact absurd h3 t
        · exact w3 j (by omega) h2 h3
theorem z_spr78 {X : Nat} (h8 : z_cn X 12 ≤ 8) : ∀ (r k : Nat) (U : v_Sf), k + r = 12 → ∃ W, r_spread78_4 (z_i X) r k (z_i (z_cn X k)) U = (z_i (z_cn X 12), W) ∧ (∀ i, i < z_cn X k → W 78 i = U 78 i) ∧ (∀ j, k ≤ j → j < 12 → X.testBit j = true → W 78 (z_cn X j) = z_i j) ∧ (∀ a j, a ≠ 78 → W a j = U a j) := by
  intro r
  induction r with
  | zero =>
    intro k U hk
    obtain rfl : k = 12 := by omega
    exact ⟨U, by rw [r_spread78_4], fun i _ => rfl, fun j h1 h2 => by omega, fun a j _ => rfl⟩
  | succ r ih =>
    intro k U hk
    have hm := z_cn_le X (12 - k) k
    rw [show k + (12 - k) = 12 by omega] at hm
    have hc1 : z_cn X (k + 1) = z_cn X k + (if X.testBit k then 1 else 0) := rfl
    rw [r_spread78_4]
    by_cases q : z_cn X k = 8
    · rw [if_pos (by rw [q]; decide)]
      refine ⟨U, by rw [show z_cn X k = z_cn X 12 by omega], fun i _ => rfl, fun j h1 h2 h3 => ?_, fun a j _ => rfl⟩
      have := z_cn_lt h2 h3
      have := z_cn_le X (j - k) k
      rw [show k + (j - k) = j by omega] at this
      omega
    · rw [if_neg (by rw [show Int32.ofNat 8 = z_i 8 by decide, z_ile (by omega) (by omega)]; omega)]
      have hI := z_isInN (X := X) (g := k) (by omega)
      by_cases t : X.testBit k = true
      · rw [if_pos t] at hc1
        rw [if_neg (fun m => by rw [hI.mp m] at t; cases t), z_iin (show z_cn X k < 2147483648 by omega), show z_i (z_cn X k) + Int32.ofInt 1 = z_i (z_cn X (k + 1)) by rw [hc1]; exact z_i1 _]
        obtain ⟨W, w1, w2, w3, w4⟩ := ih (k + 1) (z_s U 78 (z_cn X k) (z_i k)) (by omega)
        refine ⟨W, w1, fun i hi => ?_, fun j h1 h2 h3 => ?_, fun a j h1 => ?_⟩
        · rw [w2 i (by omega), z_sn (by omega)]
        · by_cases e : j = k
          · rw [e, w2 _ (by omega), z_ss]
          · exact w3 j (by omega) h2 h3
        · rw [w4 a j h1, z_sn (by omega)]
      · have t2 : X.testBit k = false := by simpa using t
        rw [if_neg t] at hc1
        rw [if_pos (hI.mpr t2), show z_cn X k = z_cn X (k + 1) by omega]
        obtain ⟨W, w1, w2, w3, w4⟩ := ih (k + 1) U (by omega)
        refine ⟨W, w1, w2, fun j h1 h2 h3 => ?_, w4⟩
        by_cases e : j = k
        · rw [e] at h3
          exact absurd h3 t
        · exact w3 j (by omega) h2 h3
theorem z_cnk (X : Nat) : ∀ k, z_cn X k ≤ k := by
  intro k
  induction k with
  | zero => exact Nat.le_refl 0
  | succ k ih =>
    rw [z_cn]
    split <;> omega
theorem z_cn6 (X : Nat) : z_cn X 6 ≤ 6 := z_cnk X 6
theorem z_cn_hi {X m : Nat} (h : X < 2 ^ m) : ∀ d, z_cn X (m + d) = z_cn X m := by
  intro d
  induction d with
  | zero => rfl
  | succ d ih =>
    rw [← Nat.add_assoc, z_cn, ih, Nat.testBit_lt_two_pow (Nat.lt_of_lt_of_le h (Nat.pow_le_pow_right (by decide) (by omega)))]
    simp
theorem z_tkp {X : Nat} : ∀ (r k : Nat) (U : v_Sf), k + r = 6 → ∃ W, r_X12_takesPlaces_4 (z_i X) r k (z_i (z_cn X k)) U = (z_i (z_cn X 6), W) ∧ (∀ i, i < z_cn X k → W 153 i = U 153 i) ∧ (∀ j, k ≤ j → j < 6 → X.testBit j = true → W 153 (z_cn X j) = z_i j) ∧ (∀ a j, a ≠ 153 → W a j = U a j) := by
  have hc := z_cn6 X
  intro r
  induction r with
  | zero =>
    intro k U hk
    obtain rfl : k = 6 := by omega
    exact ⟨U, by rw [r_X12_takesPlaces_4], fun i _ => rfl, fun j h1 h2 => by omega, fun a j _ => rfl⟩
  | succ r ih =>
    intro k U hk
    have hm := z_cn_le X (6 - k) k
    rw [show k + (6 - k) = 6 by omega] at hm
    have hc1 : z_cn X (k + 1) = z_cn X k + (if X.testBit k then 1 else 0) := rfl
    have hI := z_hasN0 (X := X) (g := k) (by omega)
    rw [r_X12_takesPlaces_4]
    by_cases t : X.testBit k = true
    · rw [if_pos t] at hc1
      rw [if_pos (fun m => by rw [hI.mp m] at t; cases t), z_iin (show z_cn X k < 2147483648 by omega), show z_i (z_cn X k) + Int32.ofInt 1 = z_i (z_cn X (k + 1)) by rw [hc1]; exact z_i1 _]
      obtain ⟨W, w1, w2, w3, w4⟩ := ih (k + 1) (z_s U 153 (z_cn X k) (z_i k)) (by omega)
      refine ⟨W, w1, fun i hi => ?_, fun j h1 h2 h3 => ?_, fun a j h1 => ?_⟩
      · rw [w2 i (by omega), z_sn (by omega)]
      · by_cases e : j = k
        · rw [e, w2 _ (by omega), z_ss]
        · exact w3 j (by omega) h2 h3
      · rw [w4 a j h1, z_sn (by omega)]
    · have t2 : X.testBit k = false := by simpa using t
      rw [if_neg t] at hc1
      rw [if_neg (not_not_intro (hI.mpr t2)), show z_cn X k = z_cn X (k + 1) by omega]
      obtain ⟨W, w1, w2, w3, w4⟩ := ih (k + 1) U (by omega)
      refine ⟨W, w1, w2, fun j h1 h2 h3 => ?_, w4⟩
      by_cases e : j = k
      · rw [e] at h3
        exact absurd h3 t
      · exact w3 j (by omega) h2 h3
theorem z_opnK {K : Nat} (hK : 1 ≤ K ∧ K ≤ 6) : ∀ (r m : Nat) (S : v_Sf), r ≤ 6 → m < 1000000 → ∃ W, r_X12_opensRow_8 (z_i K) r (z_i m) (Int32.ofInt ((r : Int) - 1)) S = W ∧ (∀ j, j < r → W 154 j = z_i (m / K ^ (r - 1 - j) % K)) ∧ (∀ a j, ¬ (a = 154 ∧ j < r) → W a j = S a j) := by
  intro r
  induction r with
  | zero =>
    intro m S _ _
    exact ⟨S, rfl, fun j hj => by omega, fun a j _ => rfl⟩
  | succ r ih =>
    intro m S hr hm
    have e1 : Int32.ofInt (((r + 1 : Nat) : Int) - 1) = z_i r := by
      unfold z_i
      congr 1
      omega
    have e2 : z_i r + Int32.ofInt (-1) = Int32.ofInt ((r : Int) - 1) := by
      unfold z_i
      rw [z_oia]
      rfl
    have er : (z_i r).toInt.toNat = r := z_iin (by omega)
    have e3 : z_i m / z_i K = z_i (m / K) := z_idiv (by omega) (by omega)
    have e4 : z_i m - z_i (m / K) * z_i K = z_i (m % K) := by
      rw [z_imul]
      have h := Nat.div_add_mod m K
      rw [Nat.mul_comm] at h
      generalize m / K * K = Z at h ⊢
      unfold z_i
      rw [z_ois]
      congr 1
      omega
    have hle := Nat.div_le_self m K
    rw [r_X12_opensRow_8, e1, e2, e3, e4, er]
    obtain ⟨W, w1, w2, w3⟩ := ih (m / K) (z_s S 154 r (z_i (m % K))) (by omega) (by omega)
    refine ⟨W, w1, fun j hj => ?_, fun a j q => ?_⟩
    · by_cases q : j = r
      · subst q
        rw [w3 _ _ (by omega), z_ss, show j + 1 - 1 - j = 0 by omega, Nat.pow_zero, Nat.div_one]
      · rw [w2 j (by omega), show r + 1 - 1 - j = (r - 1 - j) + 1 by omega, Nat.pow_succ, Nat.mul_comm _ K, ← Nat.div_div_eq_div_mul]
    · rw [w3 a j (by omega), z_sn (by omega)]
/-- whom a row's beginning takes, as bits -/
noncomputable def z_un (x : Nat → Nat) : Nat → Nat
  | 0 => 0
  | i + 1 => z_un x i ||| 2 ^ (x i)
noncomputable def z_cs (cst : Nat → Nat → Int) (x : Nat → Nat) : Nat → Int
  | 0 => 0
  | i + 1 => z_cs cst x i + cst i (x i)
noncomputable def z_ord (n : Nat) (x : Nat → Nat) (i : Nat) : Prop := (∀ j, j < i → x j < n) ∧ ∀ j, j < i → ∀ l, l < j → x l ≠ x j
theorem z_un_c {x y : Nat → Nat} : ∀ i, (∀ j, j < i → x j = y j) → z_un x i = z_un y i := by
  intro i
  induction i with
  | zero => intro _; rfl
  | succ i ih =>
    intro h
    rw [z_un, z_un, ih (fun j hj => h j (by omega)), h i (by omega)]
theorem z_cs_c {cst : Nat → Nat → Int} {x y : Nat → Nat} : ∀ i, (∀ j, j < i → x j = y j) → z_cs cst x i = z_cs cst y i := by
  intro i
  induction i with
  | zero => intro _; rfl
  | succ i ih =>
    intro h
    rw [z_cs, z_cs, ih (fun j hj => h j (by omega)), h i (by omega)]
theorem z_un_t {x : Nat → Nat} {k : Nat} : ∀ i, (z_un x i).testBit k = true ↔ ∃ j, j < i ∧ x j = k := by
  intro i
  induction i with
  | zero =>
    rw [z_un, Nat.zero_testBit]
    exact ⟨fun m => Bool.noConfusion m, fun ⟨j, hj, _⟩ => absurd hj (Nat.not_lt_zero j)⟩
  | succ i ih =>
    rw [z_un, Nat.testBit_or, Bool.or_eq_true, ih, Nat.testBit_two_pow, decide_eq_true_iff]
    constructor
    · rintro (⟨j, h1, h2⟩ | h)
      · exact ⟨j, by omega, h2⟩
      · exact ⟨i, by omega, h⟩
    · rintro ⟨j, h1, h2⟩
      by_cases e : j = i
      · right
        rw [← e]
        exact h2
      · exact Or.inl ⟨j, by omega, h2⟩
theorem z_un_lt {x : Nat → Nat} : ∀ i, (∀ j, j < i → x j < 12) → z_un x i < 4096 := by
  intro i
  induction i with
  | zero => intro _; show 0 < 4096; decide
  | succ i ih =>
    intro h
    rw [z_un]
    exact Nat.or_lt_two_pow (n := 12) (ih (fun j hj => h j (by omega))) (Nat.pow_lt_pow_right (by decide) (h i (by omega)))
theorem z_ior {a k : Nat} (ha : a < 4096) (hk : k < 12) : z_i a ||| (Int32.ofInt 1 <<< (z_i k &&& 31)) = z_i (a ||| 2 ^ k) := by
  have h1 : (Int32.ofInt 1 <<< (z_i k &&& 31)).toBitVec.toNat = 2 ^ k := z_one_n ⟨k, hk⟩
  have h2 : a ||| 2 ^ k < 2 ^ 12 := Nat.or_lt_two_pow ha (Nat.pow_lt_pow_right (by decide) hk)
  refine Int32.toBitVec_inj.mp (BitVec.eq_of_toNat_eq ?_)
  rw [Int32.toBitVec_or, BitVec.toNat_or, h1, z_ibv, z_ibv, BitVec.toNat_ofNat, BitVec.toNat_ofNat, Nat.mod_eq_of_lt (by omega), Nat.mod_eq_of_lt (by omega)]
theorem z_gp_n {n : Nat} {cst : Nat → Nat → Int} (hc : ∀ i k, 0 ≤ cst i k) : z_gp n (z_ord n) (z_cs cst) := by
  refine ⟨fun x y i _ h v => ⟨fun j hj => by rw [← h j hj]; exact v.1 j hj, fun j hj l hl => by rw [← h j hj, ← h l (by omega)]; exact v.2 j hj l hl⟩, fun x y i _ h => z_cs_c i h, fun x i _ v => ⟨fun j hj => v.1 j (by omega), fun j hj => v.2 j (by omega)⟩, fun x i _ => ?_⟩
  have := hc i (x i)
  rw [z_cs]
  omega
theorem z_ordu {n : Nat} {x : Nat → Nat} {i k : Nat} (v : z_ord n x i) (hk : k < n) : z_ord n (z_u5 x i k) (i + 1) ↔ ¬ ∃ j, j < i ∧ x j = k := by
  constructor
  · rintro ⟨w1, w2⟩ ⟨j, hj, e⟩
    have := w2 i (by omega) j hj
    rw [z_u5s, z_u5n (by omega)] at this
    exact this e
  · intro h
    refine ⟨fun j hj => ?_, fun j hj l hl => ?_⟩
    · by_cases q : j = i
      · rw [q, z_u5s]
        exact hk
      · rw [z_u5n q]
        exact v.1 j (by omega)
    · by_cases q : j = i
      · rw [q] at hl ⊢
        rw [z_u5s, z_u5n (by omega)]
        exact fun e => h ⟨l, hl, e⟩
      · rw [z_u5n q, z_u5n (by omega)]
        exact v.2 j (by omega) l hl
theorem z_cs_b {cst : Nat → Nat → Int} (hc : ∀ i k, 0 ≤ cst i k ∧ cst i k ≤ 10) (x : Nat → Nat) : ∀ i : Nat, 0 ≤ z_cs cst x i ∧ z_cs cst x i ≤ 10 * (i : Int) := by
  intro i
  induction i with
  | zero => exact ⟨Int.le_refl 0, Int.le_refl 0⟩
  | succ i ih =>
    rw [z_cs]
    have := hc i (x i)
    push_cast
    omega
/-! the class's search -/
noncomputable def z_Bst (n : Nat) (cst : Nat → Nat → Int) (S : v_Sf) : Prop := n ≤ 5 ∧ S 76 4 = z_i n ∧ S 76 5 = z_i n ∧ (∀ i k, 0 ≤ cst i k ∧ cst i k ≤ 10) ∧ ∀ i k, i < n → k < n → S 82 (8 * i + k) = Int32.ofInt (cst i k)
noncomputable def z_Is (n i : Nat) (x : Nat → Nat) (B : z_Gt) (S U : v_Sf) : Prop := (∀ a j, ¬ (a = 76 ∧ j = 12 ∨ a = 83 ∨ a = 84) → U a j = S a j) ∧ (∀ j, j < i → U 83 j = z_i (x j)) ∧ U 76 12 = Int32.ofInt B.1 ∧ (B.1 < 1000 → ∀ j, j < n → U 84 j = z_i (B.2 j)) ∧ 0 ≤ B.1 ∧ B.1 ≤ 1000
section ST
variable {n : Nat} {cst : Nat → Nat → Int} {S : v_Sf}
theorem z_stlp {φ : Int32 → Int32 → Int32 → v_Sf → v_Sf} {r i : Nat} (hb : z_Bst n cst S) (hi : i + (r + 1) = n) {x : Nat → Nat} (v : z_ord n x i) (hφ : ∀ (y : Nat → Nat) (C : z_Gt) (V : v_Sf), z_ord n y (i + 1) → z_Is n (i + 1) y C S V → z_Is n (i + 1) y (z_gf n n (z_ord n) (z_cs cst) r (i + 1) y C) S (φ (z_i (i + 1)) (z_i (z_un y (i + 1))) (Int32.ofInt (z_cs cst y (i + 1))) V)) : ∀ (q k : Nat) (B : z_Gt) (U : v_Sf), k + q = n → z_Is n i x B S U → z_Is n i x (z_gk (fun k B => z_gf n n (z_ord n) (z_cs cst) r (i + 1) (z_u5 x i k) B) q k B) S (r_staffF_32 φ (z_i i) (z_i (z_un x i)) (Int32.ofInt (z_cs cst x i)) (8 - k) k U) := by
  obtain ⟨h5, h4, h5', hc, hs⟩ := id hb
  have ei : (z_i i).toInt.toNat = i := z_iin (by omega)
  have hun := z_un_lt (x := x) i (fun j hj => by have := v.1 j hj; omega)
  intro q
  induction q with
  | zero =>
    intro k B U hk I
    obtain rfl : k = n := by omega
    obtain ⟨i1, i2, i3, i4, i5, i6⟩ := id I
    rw [show 8 - k = (7 - k) + 1 by omega, r_staffF_32, i1 76 5 (by omega), h5', if_pos (by rw [z_ile (by omega) (by omega)]; omega), z_gk]
    exact I
  | succ q ih =>
    intro k B U hk I
    obtain ⟨i1, i2, i3, i4, i5, i6⟩ := id I
    have ek : (z_i k).toInt.toNat = k := z_iin (by omega)
    have hI := z_isInN (X := z_un x i) (g := k) (by omega)
    have ht := z_un_t (x := x) (k := k) i
    have ho := z_ordu v (k := k) (by omega)
    rw [show 8 - k = (7 - k) + 1 by omega, r_staffF_32, i1 76 5 (by omega), h5', if_neg (by rw [z_ile (by omega) (by omega)]; omega), if_neg (by rw [show Int32.ofInt 8 = z_i 8 from rfl, z_ile (by omega) (by omega)]; omega), z_gk, show 7 - k = 8 - (k + 1) by omega]
    by_cases t : (z_un x i).testBit k = true
    · rw [if_pos (fun m => by rw [hI.mp m] at t; cases t), z_gf_inv (z_gp_n (fun i k => (hc i k).1)) r (i + 1) _ B (by omega) (fun w => ho.mp w (ht.mp t))]
      exact ih (k + 1) B U (by omega) I
    · have t2 : (z_un x i).testBit k = false := by simpa using t
      have vk : z_ord n (z_u5 x i k) (i + 1) := ho.mpr (fun m => t (ht.mpr m))
      have e82 : (((z_i i) * (Int32.ofInt 8)) + (z_i k)).toInt.toNat = 8 * i + k := by
        rw [show Int32.ofInt 8 = z_i 8 from rfl, z_imul, z_iadd, z_iin (by omega), Nat.mul_comm]
      have eu : z_i (z_un x i) ||| ((Int32.ofInt 1) <<< ((z_i k) &&& 31)) = z_i (z_un (z_u5 x i k) (i + 1)) := by
        rw [z_ior hun (by omega), z_un, z_u5s, z_un_c (x := z_u5 x i k) (y := x) i (fun j hj => z_u5n (by omega))]
      have ec : Int32.ofInt (z_cs cst x i) + Int32.ofInt (cst i k) = Int32.ofInt (z_cs cst (z_u5 x i k) (i + 1)) := by
        rw [z_oia, z_cs, z_u5s, z_cs_c (x := z_u5 x i k) (y := x) i (fun j hj => z_u5n (by omega))]
      rw [if_neg (not_not_intro (hI.mpr t2)), e82, i1 82 _ (by omega), hs i k (by omega) (by omega), ei, eu, ec, show z_i i + Int32.ofInt 1 = z_i (i + 1) from z_i1 i]
      refine ih (k + 1) _ _ (by omega) ?_
      have V1 : z_Is n (i + 1) (z_u5 x i k) B S (z_s U 83 i (z_i k)) := by
        refine ⟨fun a j m => ?_, fun j hj => ?_, ?_, fun m j hj => ?_, i5, i6⟩
        · rw [z_sn (by omega)]
          exact i1 a j m
        · by_cases e : j = i
          · rw [e, z_u5s, z_ss]
          · rw [z_u5n e, z_sn (by omega)]
            exact i2 j (by omega)
        · rw [z_sn (by omega)]
          exact i3
        · rw [z_sn (by omega)]
          exact i4 m j hj
      obtain ⟨j1, j2, j3, j4, j5, j6⟩ := hφ _ _ _ vk V1
      refine ⟨j1, fun j hj => ?_, j3, j4, j5, j6⟩
      have e := j2 j (by omega)
      rw [z_u5n (by omega)] at e
      exact e
theorem z_stsr (hb : z_Bst n cst S) : ∀ (r i f : Nat) (x : Nat → Nat) (B : z_Gt) (U : v_Sf), i + r = n → r ≤ f → z_ord n x i → z_Is n i x B S U → z_Is n i x (z_gf n n (z_ord n) (z_cs cst) r i x B) S (g_staffN f (z_i i) (z_i (z_un x i)) (Int32.ofInt (z_cs cst x i)) U) := by
  obtain ⟨h5, h4, h5', hc, hs⟩ := id hb
  intro r
  induction r with
  | zero =>
    intro i f x B U hi hf v I
    obtain rfl : i = n := by omega
    obtain ⟨i1, i2, i3, i4, i5, i6⟩ := id I
    obtain ⟨φ, hφ⟩ : ∃ φ, g_staffN f = g_staffF φ := by
      cases f with
      | zero => exact ⟨_, rfl⟩
      | succ f => exact ⟨_, rfl⟩
    have cb := z_cs_b hc x i
    rw [hφ]
    unfold g_staffF F_staffF g_X4_keepRow
    rw [i3, i1 76 4 (by omega), h4, if_pos (show z_i i ≤ z_i i by rw [z_ile (by omega) (by omega)]; omega), z_gf, z_gs]
    by_cases q : z_cs cst x i < B.1
    · rw [if_pos ((z_oil (by omega) (by omega)).mpr q), if_pos ⟨v, q⟩]
      refine ⟨fun a j m => ?_, fun j hj => ?_, ?_, fun m j hj => ?_, cb.1, ?_⟩
      · rw [z_cpn (by omega), z_sn (by omega)]
        exact i1 a j m
      · rw [z_cpn (by omega), z_sn (by omega)]
        exact i2 j hj
      · rw [z_cpn (by omega), z_ss]
      · rw [z_cps (k := 8) rfl (by omega), z_sn (by omega)]
        exact i2 j hj
      · show z_cs cst x i ≤ 1000
        omega
    · rw [if_neg (fun m => q ((z_oil (by omega) (by omega)).mp m)), if_neg (fun m => q m.2)]
      exact I
  | succ r ih =>
    intro i f x B U hi hf v I
    obtain ⟨i1, i2, i3, i4, i5, i6⟩ := id I
    obtain ⟨f, rfl⟩ : ∃ f', f = f' + 1 := ⟨f - 1, by omega⟩
    have cb := z_cs_b hc x i
    rw [show g_staffN (f + 1) = g_staffF (g_staffN f) from rfl]
    unfold g_staffF F_staffF
    rw [i3, i1 76 4 (by omega), h4, if_neg (show ¬ z_i n ≤ z_i i by rw [z_ile (by omega) (by omega)]; omega), if_pos (show z_i i < Int32.ofInt 8 by rw [show Int32.ofInt 8 = z_i 8 from rfl, z_ilt (by omega) (by omega)]; omega)]
    by_cases q : z_cs cst x i < B.1
    · rw [if_pos ((z_oil (by omega) (by omega)).mpr q), z_gf]
      exact z_stlp hb hi v (fun y C V vy Iy => ih (i + 1) f y C V (by omega) (by omega) vy Iy) n 0 B U (by omega) I
    · rw [if_neg (fun m => q ((z_oil (by omega) (by omega)).mp m)), z_gf_bnd (z_gp_n (fun i k => (hc i k).1)) (r + 1) i x B hi (by omega)]
      exact I
end ST
/-! some row is found -/
theorem z_gs_le {n : Nat} {ok : (Nat → Nat) → Nat → Prop} {co : (Nat → Nat) → Nat → Int} (x : Nat → Nat) (B : z_Gt) : (z_gs n ok co x B).1 ≤ B.1 ∧ (ok x n → (z_gs n ok co x B).1 ≤ co x n) := by
  unfold z_gs
  by_cases q : ok x n ∧ co x n < B.1
  · rw [if_pos q]
    exact ⟨Int.le_of_lt q.2, fun _ => Int.le_refl _⟩
  · rw [if_neg q]
    refine ⟨Int.le_refl _, fun h => ?_⟩
    have : ¬ co x n < B.1 := fun m => q ⟨h, m⟩
    omega
theorem z_gk_le {f : Nat → z_Gt → z_Gt} (h : ∀ k B, (f k B).1 ≤ B.1) : ∀ (q k : Nat) (B : z_Gt), (z_gk f q k B).1 ≤ B.1 := by
  intro q
  induction q with
  | zero => intro k B; exact Int.le_refl _
  | succ q ih =>
    intro k B
    rw [z_gk]
    exact Int.le_trans (ih (k + 1) _) (h k B)
theorem z_gf_le {K n : Nat} {ok : (Nat → Nat) → Nat → Prop} {co : (Nat → Nat) → Nat → Int} : ∀ (r i : Nat) (x : Nat → Nat) (B : z_Gt), (z_gf K n ok co r i x B).1 ≤ B.1 := by
  intro r
  induction r with
  | zero => intro i x B; rw [z_gf]; exact (z_gs_le x B).1
  | succ r ih => intro i x B; rw [z_gf]; exact z_gk_le (fun k B => ih (i + 1) _ B) K 0 B
theorem z_gk_at {f : Nat → z_Gt → z_Gt} (h : ∀ k B, (f k B).1 ≤ B.1) {k0 : Nat} {M : Int} (h0 : ∀ B, (f k0 B).1 ≤ M) : ∀ (q k : Nat) (B : z_Gt), k ≤ k0 → k0 < k + q → (z_gk f q k B).1 ≤ M := by
  intro q
  induction q with
  | zero => intro k B h1 h2; omega
  | succ q ih =>
    intro k B h1 h2
    rw [z_gk]
    by_cases e : k = k0
    · rw [e]
      exact Int.le_trans (z_gk_le h q (k0 + 1) _) (h0 B)
    · exact ih (k + 1) _ (by omega) (by omega)
/-- a row that can be is beaten or taken -/
theorem z_gf_at {K n : Nat} {ok : (Nat → Nat) → Nat → Prop} {co : (Nat → Nat) → Nat → Int} (hp : z_gp n ok co) {w : Nat → Nat} (hw : ∀ j, j < n → w j < K) (hok : ok w n) : ∀ (r i : Nat) (x : Nat → Nat) (B : z_Gt), i + r = n → (∀ j, j < i → x j = w j) → (z_gf K n ok co r i x B).1 ≤ co w n := by
  intro r
  induction r with
  | zero =>
    intro i x B h hx
    obtain rfl : i = n := by omega
    rw [z_gf, ← hp.2.1 x w i (Nat.le_refl i) hx]
    exact (z_gs_le x B).2 (hp.1 w x i (Nat.le_refl i) (fun j hj => (hx j hj).symm) hok)
  | succ r ih =>
    intro i x B h hx
    rw [z_gf]
    refine z_gk_at (fun k B => z_gf_le r (i + 1) _ B) (k0 := w i) (fun B => ih (i + 1) _ B (by omega) (fun j hj => ?_)) K 0 B (Nat.zero_le _) (by have := hw i (by omega); omega)
    by_cases e : j = i
    · rw [e, z_u5s]
    · rw [z_u5n e]
      exact hx j (by omega)
