/-! months: who is in a ward, who falls ill -/
set_option maxRecDepth 100000 in
theorem z_bcb_l : (List.range 4096).all (fun X => decide (f_J6_bitCount_0f7a4 (z_i X) = z_i (v_popN 12 X))) = true := by decide +kernel
theorem z_bcb_all : ∀ X : Fin 4096, f_J6_bitCount_0f7a4 (z_i X.val) = z_i (v_popN 12 X.val) := fun X => of_decide_eq_true (List.all_eq_true.mp z_bcb_l X.val (List.mem_range.mpr X.isLt))
set_option maxRecDepth 100000 in
theorem z_nbs_l : (List.range 12).all (fun k => (List.range (2 ^ k)).all (fun X => Nat.beq (v_popN 12 (X + 2 ^ k)) (v_popN 12 X + 1))) = true := by decide +kernel
theorem z_nbs_all : ∀ k : Fin 12, ∀ X : Fin (2 ^ k.val), v_popN 12 (X.val + 2 ^ k.val) = v_popN 12 X.val + 1 := fun k X => Nat.eq_of_beq_eq_true (List.all_eq_true.mp (List.all_eq_true.mp z_nbs_l k.val (List.mem_range.mpr k.isLt)) X.val (List.mem_range.mpr X.isLt))
set_option maxRecDepth 100000 in
theorem z_nbz_l : (List.range 4096).all (fun X => Nat.ble (v_popN 12 X) 12 && decide (v_popN 12 X = 0 ↔ X = 0)) = true := by decide +kernel
theorem z_nbz_all : ∀ X : Fin 4096, v_popN 12 X.val ≤ 12 ∧ (v_popN 12 X.val = 0 ↔ X.val = 0) := fun X => by
  have h := List.all_eq_true.mp z_nbz_l X.val (List.mem_range.mpr X.isLt)
  rw [Bool.and_eq_true] at h
  exact ⟨Nat.le_of_ble_eq_true h.1, of_decide_eq_true h.2⟩
theorem z_bcs_all : ∀ k : Fin 12, ∀ X : Fin (2 ^ k.val), f_J6_bitCount_0f7a4 (z_i (X.val + 2 ^ k.val)) = f_J6_bitCount_0f7a4 (z_i X.val) + Int32.ofInt 1 := fun k X => by
  have p : 2 ^ k.val ≤ 2 ^ 11 := Nat.pow_le_pow_right (by decide) (by omega)
  have hX := X.isLt
  have a : f_J6_bitCount_0f7a4 (z_i (X.val + 2 ^ k.val)) = z_i (v_popN 12 (X.val + 2 ^ k.val)) := z_bcb_all ⟨X.val + 2 ^ k.val, by omega⟩
  have b : f_J6_bitCount_0f7a4 (z_i X.val) = z_i (v_popN 12 X.val) := z_bcb_all ⟨X.val, by omega⟩
  rw [a, b, z_nbs_all k X, z_i1]
theorem z_bcz_all : ∀ X : Fin 4096, decide (f_J6_bitCount_0f7a4 (z_i X.val) = 0) = decide (X.val = 0) := fun X => by
  obtain ⟨l, e⟩ := z_nbz_all X
  rw [z_bcb_all X]
  refine decide_eq_decide.mpr ⟨fun m => e.mp ?_, fun m => by rw [e.mpr m]; rfl⟩
  have := congrArg (fun z => z.toInt.toNat) m
  simp only [z_iin (show v_popN 12 X.val < 2147483648 by omega)] at this
  exact this
set_option maxRecDepth 100000 in
theorem z_ors_all : ∀ k : Fin 12, ∀ X : Fin (2 ^ k.val), z_i X.val ||| (Int32.ofInt 1 <<< (z_i k.val &&& 31)) = z_i (X.val + 2 ^ k.val) := by decide +kernel
theorem z_addz (x : Int32) : x + Int32.ofInt 0 = x := by
  rw [show Int32.ofInt 0 = 0 by decide, Int32.add_zero]
theorem z_many {s : Nat} {S T : v_Sf} (h1 : z_told 12 4095 (S s 0) (T 116)) (h2 : z_co 12 (S (s + 4)) (T 120) 0 5) (w : Int32) : ∃ X, X < 4096 ∧ f_X7_inWard s w S = z_i X ∧ f_X12_manyIn w T = f_J6_bitCount_0f7a4 (z_i X) := by
  have lp : ∀ (r k X : Nat), r + k = 12 → X < 2 ^ k → ∃ Y, Y < 4096 ∧ r_X7_inWard_4 s w S r k (z_i X) = z_i Y ∧ r_X12_manyIn_4 w T r k (f_J6_bitCount_0f7a4 (z_i X)) = f_J6_bitCount_0f7a4 (z_i Y) := by
    intro r
    induction r with
    | zero =>
      intro k X hk hX
      obtain rfl : k = 12 := by omega
      refine ⟨X, hX, ?_, ?_⟩
      · rw [r_X7_inWard_4]
      · rw [r_X12_manyIn_4]
    | succ r ih =>
      intro k X hk hX
      have ek : (z_i k).toInt.toNat = k := z_iin (by omega)
      have hX2 : X < 2 ^ (k + 1) := by
        rw [Nat.pow_succ]
        omega
      have hb : (f_X7_hasGust s (z_i k) S = 0) ↔ T 116 k = 0 := by
        rw [z_hasG S (by omega), h1.2 k (by omega)]
        exact Classical.not_not
      rw [r_X7_inWard_4, r_X12_manyIn_4, ek, (h2 k (by omega)).1]
      by_cases ht : T 116 k = 0
      · rw [if_pos (hb.mpr ht), if_pos (by unfold f_X12_isIn; rw [ek, if_pos ht]; decide), z_addz]
        exact ih (k + 1) X (by omega) hX2
      · rw [if_neg (fun q => ht (hb.mp q))]
        by_cases hin : T 120 k = w
        · rw [if_neg (not_not_intro hin), if_neg (by unfold f_X12_isIn; rw [ek, if_neg ht, if_neg (not_not_intro hin)]; decide)]
          have a1 := z_ors_all ⟨k, by omega⟩ ⟨X, hX⟩
          have a2 := z_bcs_all ⟨k, by omega⟩ ⟨X, hX⟩
          simp only at a1 a2
          rw [a1, ← a2]
          exact ih (k + 1) (X + 2 ^ k) (by omega) (by rw [Nat.pow_succ]; omega)
        · rw [if_pos hin, if_pos (by unfold f_X12_isIn; rw [ek, if_neg ht, if_pos hin]; decide), z_addz]
          exact ih (k + 1) X (by omega) hX2
  obtain ⟨Y, y1, y2, y3⟩ := lp 12 0 0 (by omega) (by decide)
  refine ⟨Y, y1, y2, ?_⟩
  rw [← y3]
  rfl
theorem z_many0 {s : Nat} {S T : v_Sf} (h1 : z_told 12 4095 (S s 0) (T 116)) (h2 : z_co 12 (S (s + 4)) (T 120) 0 5) (w : Int32) : (f_X7_inWard s w S = 0 ↔ f_X12_manyIn w T = 0) ∧ f_J6_bitCount_0f7a4 (f_X7_inWard s w S) = f_X12_manyIn w T := by
  obtain ⟨X, hX, e1, e2⟩ := z_many h1 h2 w
  rw [e1, e2]
  refine ⟨?_, rfl⟩
  have := decide_eq_decide.mp (z_bcz_all ⟨X, hX⟩)
  simp only at this
  rw [this, show (0 : Int32) = z_i 0 from rfl, z_inj (by omega) (by omega)]
theorem z_inW_c {s : Nat} {S S' : v_Sf} (h0 : S' s 0 = S s 0) (h4 : S' (s + 4) = S (s + 4)) (w : Int32) : f_X7_inWard s w S' = f_X7_inWard s w S := by
  have lp : ∀ (r k : Nat) (x : Int32), r_X7_inWard_4 s w S' r k x = r_X7_inWard_4 s w S r k x := by
    intro r
    induction r with
    | zero =>
      intro k x
      rw [r_X7_inWard_4, r_X7_inWard_4]
    | succ r ih =>
      intro k x
      have e : f_X7_hasGust s (z_i k) S' = f_X7_hasGust s (z_i k) S := by
        unfold f_X7_hasGust
        rw [h0]
      rw [r_X7_inWard_4, r_X7_inWard_4, e, h4, ih, ih]
  exact lp _ _ _
theorem z_man_c {T T' : v_Sf} (h0 : T' 116 = T 116) (h4 : T' 120 = T 120) (w : Int32) : f_X12_manyIn w T' = f_X12_manyIn w T := by
  have lp : ∀ (r k : Nat) (x : Int32), r_X12_manyIn_4 w T' r k x = r_X12_manyIn_4 w T r k x := by
    intro r
    induction r with
    | zero =>
      intro k x
      rw [r_X12_manyIn_4, r_X12_manyIn_4]
    | succ r ih =>
      intro k x
      have e : f_X12_isIn (z_i k) w T' = f_X12_isIn (z_i k) w T := by
        unfold f_X12_isIn
        rw [h0, h4]
      rw [r_X12_manyIn_4, r_X12_manyIn_4, e, ih, ih]
  exact lp _ _ _
theorem z_look90 {s : Nat} (hs : z_st s) (x : Int32) : ∀ (r k : Nat) (S : v_Sf), (∀ a j, ¬ (a = 51 ∧ 11 ≤ j ∧ j ≤ 14) → r_X3_lookAtWard_90 s x r k S a j = S a j) ∧ r_X3_lookAtWard_90 s x r k S 51 14 = S s 11 - S s 11 / Int32.ofInt 12 * Int32.ofInt 12 := by
  have hsn := z_stn hs
  intro r
  induction r with
  | zero =>
    intro k S
    rw [r_X3_lookAtWard_90]
    refine ⟨fun a j q => ?_, z_ss⟩
    rw [z_sn (by omega), z_sn (by omega), z_sn (by omega)]
  | succ r ih =>
    intro k S
    rw [r_X3_lookAtWard_90]
    split
    · refine ⟨fun a j q => ?_, ?_⟩
      · rw [(ih _ _).1 a j q, z_sn (by omega)]
      · rw [(ih _ _).2, z_sn (by omega)]
    · refine ⟨fun a j q => ?_, ?_⟩
      · rw [(ih _ _).1 a j q, z_sn (by omega)]
      · rw [(ih _ _).2, z_sn (by omega)]
/-- a ward is looked at -/
theorem z_lookW {s w : Nat} (hs : z_st s) (hw : w < 6) (S : v_Sf) : (∀ a, a ≠ 51 → g_X3_lookAtWard s (z_i w) S a = S a) ∧ (∀ j, j < 15 → ¬ (j = 5 ∨ j = 9 ∨ j = 10 ∨ 11 ≤ j) → g_X3_lookAtWard s (z_i w) S 51 j = Int32.ofInt 0) ∧ g_X3_lookAtWard s (z_i w) S 51 5 = z_i w ∧ g_X3_lookAtWard s (z_i w) S 51 10 = f_J6_bitCount_0f7a4 (f_X7_inWard s (z_i w) S) ∧ g_X3_lookAtWard s (z_i w) S 51 14 = S s 11 - S s 11 / Int32.ofInt 12 * Int32.ofInt 12 := by
  have hsn := z_stn hs
  have fl := z_fill51 (Int32.ofInt 0) S
  have fr : ∀ a j, a ≠ 51 → g_fill51 (Int32.ofInt 0) S a j = S a j := fun a j q => by rw [fl, if_neg (by omega)]
  have iw : f_X7_inWard s (z_i w) (g_fill51 (Int32.ofInt 0) S) = f_X7_inWard s (z_i w) S := z_inW_c (fr _ _ (by omega)) (funext fun j => fr _ _ (by omega)) _
  have E : ∃ x, g_X3_lookAtWard s (z_i w) S = r_X3_lookAtWard_90 s (f_X7_inWard s (z_i w) S) 12 0 (z_s (z_s (z_s (g_fill51 (Int32.ofInt 0) S) 51 5 (z_i w)) 51 9 x) 51 10 (f_J6_bitCount_0f7a4 (f_X7_inWard s (z_i w) S))) := by
    unfold g_X3_lookAtWard F_X3_lookAtWard
    rw [if_neg (by rw [show (0 : Int32) = z_i 0 from rfl, z_ilt (by omega) (by omega)]; omega), if_neg (by rw [show Int32.ofNat 6 = z_i 6 by decide, z_ile (by omega) (by omega)]; omega), iw]
    split
    · exact ⟨_, rfl⟩
    · exact ⟨_, rfl⟩
  obtain ⟨x, E⟩ := E
  rw [E]
  have l := z_look90 hs (f_X7_inWard s (z_i w) S) 12 0 (z_s (z_s (z_s (g_fill51 (Int32.ofInt 0) S) 51 5 (z_i w)) 51 9 x) 51 10 (f_J6_bitCount_0f7a4 (f_X7_inWard s (z_i w) S)))
  refine ⟨fun a ha => ?_, fun j hj q => ?_, ?_, ?_, ?_⟩
  · funext j
    rw [l.1 a j (by omega), z_sn (by omega), z_sn (by omega), z_sn (by omega), fr a j ha]
  · rw [l.1 51 j (by omega), z_sn (by omega), z_sn (by omega), z_sn (by omega), fl, if_pos (by omega)]
  · rw [l.1 51 5 (by omega), z_sn (by omega), z_sn (by omega), z_ss]
  · rw [l.1 51 10 (by omega), z_ss]
  · rw [l.2, z_sn (by omega), z_sn (by omega), z_sn (by omega), fr _ _ (by omega)]
theorem z_hasN {s n : Nat} {S T : v_Sf} (h : z_told 5 31 (S s 7) (T 129)) (hn : n < 5) : (f_X7_hasNurse s (z_i n) S = 0) ↔ T 129 n = 0 := by
  have nb := h.2 n hn
  unfold z_bit at nb
  unfold f_X7_hasNurse
  rw [if_neg (show ¬ z_i n < 0 by rw [show (0 : Int32) = z_i 0 from rfl, z_ilt (by omega) (by omega)]; omega), if_neg (show ¬ Int32.ofInt 5 ≤ z_i n by rw [show Int32.ofInt 5 = z_i 5 from rfl, z_ile (by omega) (by omega)]; omega)]
  by_cases q : T 129 n = 0
  · rw [if_pos (Classical.byContradiction (fun m => nb.mp m q))]
    exact ⟨fun _ => q, fun _ => by decide⟩
  · rw [if_neg (nb.mpr q)]
    exact ⟨fun m => absurd m (by decide), fun m => absurd m q⟩
/-- a nurse in a ward -/
theorem z_ill {c s nc : Nat} (hc : z_cd c) (hs : z_st s) {S T : v_Sf} (h : z_Mo c s nc S T) {w n : Nat} (hw : w < 6) (hn : n < 5) (ht : ¬ T 129 n = 0) : f_X3_illness c s (z_i w) (z_i n) S = f_X12_falling (z_i n) (z_i w) T ∧ z_Mo c s nc (g_X3_illness c s (z_i w) (z_i n) S) (g_X12_falling (z_i n) (z_i w) T) ∧ (∀ a, a ≠ 51 → a ≠ c + 3 → g_X3_illness c s (z_i w) (z_i n) S a = S a) ∧ ∀ a j, ¬ (a = 99 ∧ 27 ≤ j ∧ j ≤ 40) → a ≠ 114 → a ≠ 115 → g_X12_falling (z_i n) (z_i w) T a j = T a j := by
  have hsn := z_stn hs
  have hcl := z_cdl hc
  have en : (z_i n).toInt.toNat = n := z_iin (by omega)
  have lk := z_lookW hs hw S
  have no := z_noth T
  have mo := h.1.2.2.2.2.2.2.2.2.2.2.1
  have as := h.1.2.2.2.2.2.2.2.2.1 n hn
  have my := z_many0 h.1.1 h.1.2.2.2.2.1 (z_i w)
  generalize hL : g_X3_lookAtWard s (z_i w) S = L at lk
  generalize hN : g_X12_nothingStands T = N at no
  generalize hS1 : z_s (z_s (z_s (z_s L 51 11 (Int32.ofInt 0)) 51 12 (Int32.ofInt 0)) 51 13 (Int32.ofInt 0)) 51 9 (T 130 n) = S1
  generalize hT1 : z_s (z_s (z_s N 99 32 (z_i w)) 99 36 (T 130 n)) 99 37 (f_X12_manyIn (z_i w) T) = T1
  have E1 : f_X3_illness c s (z_i w) (z_i n) S = f_X3_firstAmount c (Int32.ofInt 105) (Int32.ofInt 10) S1 ∧ g_X3_illness c s (z_i w) (z_i n) S = g_X3_firstAmount c (Int32.ofInt 105) (Int32.ofInt 10) S1 := by
    have hh : ¬ f_X7_hasNurse s (z_i n) (z_s (z_s (z_s L 51 11 (Int32.ofInt 0)) 51 12 (Int32.ofInt 0)) 51 13 (Int32.ofInt 0)) = 0 := by
      intro q
      have q2 : f_X7_hasNurse s (z_i n) S = 0 := by
        unfold f_X7_hasNurse at q ⊢
        rw [z_sn (by omega), z_sn (by omega), z_sn (by omega), lk.1 s (by omega)] at q
        exact q
      exact ht ((z_hasN h.1.2.2.2.2.2.2.2.1 hn).mp q2)
    unfold f_X3_illness g_X3_illness
    rw [hL, if_neg hh, if_neg hh, lk.1 (s + 7) (by omega), en, as.1, hS1]
    exact ⟨rfl, rfl⟩
  have E2 : f_X12_falling (z_i n) (z_i w) T = f_X12_tells (Int32.ofInt 105) (Int32.ofInt 10) T1 ∧ g_X12_falling (z_i n) (z_i w) T = g_X12_tells (Int32.ofInt 105) (Int32.ofInt 10) T1 := by
    have em : f_X12_manyIn (z_i w) (z_s (z_s N 99 32 (z_i w)) 99 36 (T 130 n)) = f_X12_manyIn (z_i w) T := z_man_c (funext fun j => by rw [z_sn (by omega), z_sn (by omega), no.1 _ _ (by omega)]) (funext fun j => by rw [z_sn (by omega), z_sn (by omega), no.1 _ _ (by omega)]) _
    unfold f_X12_falling g_X12_falling
    rw [hN, en, no.1 130 n (by omega), em, hT1]
    exact ⟨rfl, rfl⟩
  have f1 : ∀ a, a ≠ 51 → S1 a = S a := by
    intro a q
    rw [← hS1]
    exact (z_sr q).trans ((z_sr q).trans ((z_sr q).trans ((z_sr q).trans (lk.1 a q))))
  have f2 : ∀ a j, ¬ (a = 99 ∧ 27 ≤ j ∧ j ≤ 40) → T1 a j = T a j := by
    intro a j q
    rw [← hT1, z_sn (by omega), z_sn (by omega), z_sn (by omega), no.1 a j q]
  have hv : z_vw (fun a => f_X1_valueAt a S1) (fun a => f_X12_valueOf a T1) := by
    refine z_vw_mk (fun i hi => ?_) ?_
    · rw [← hS1, ← hT1]
      have cs : i = 5 ∨ i = 9 ∨ i = 10 ∨ i = 11 ∨ i = 12 ∨ i = 13 ∨ (i < 11 ∧ i ≠ 5 ∧ i ≠ 9 ∧ i ≠ 10) := by omega
      rcases cs with rfl | rfl | rfl | rfl | rfl | rfl | q
      · rw [z_sn (by omega), z_sn (by omega), z_sn (by omega), z_sn (by omega), lk.2.2.1, z_sn (by omega), z_sn (by omega), z_ss]
      · rw [z_ss, z_sn (by omega), z_ss]
      · rw [z_sn (by omega), z_sn (by omega), z_sn (by omega), z_sn (by omega), lk.2.2.2.1, z_ss, my.2]
      · rw [z_sn (by omega), z_sn (by omega), z_sn (by omega), z_ss, z_sn (by omega), z_sn (by omega), z_sn (by omega), no.2 _ (by omega) (by omega)]
      · rw [z_sn (by omega), z_sn (by omega), z_ss, z_sn (by omega), z_sn (by omega), z_sn (by omega), no.2 _ (by omega) (by omega)]
      · rw [z_sn (by omega), z_ss, z_sn (by omega), z_sn (by omega), z_sn (by omega), no.2 _ (by omega) (by omega)]
      · rw [z_sn (by omega), z_sn (by omega), z_sn (by omega), z_sn (by omega), lk.2.1 i (by omega) (by omega), z_sn (by omega), z_sn (by omega), z_sn (by omega), no.2 _ (by omega) (by omega)]
    · rw [f2 99 60 (by omega), ← hS1, z_sn (by omega), z_sn (by omega), z_sn (by omega), z_sn (by omega), lk.2.2.2.2, mo.1]
  have h1 : z_Mo c s nc S1 T1 := z_Mo_f h (fun a q => f1 a (by omega)) (fun j _ => by rw [f1 s (by omega)]) (by rw [f1 75 (by decide)]) (fun a j q => f2 a j (by omega))
  have am := z_amount hc (L := Int32.ofInt 105) (most := Int32.ofInt 10) (z_na (by decide) (by decide)) (by decide) h1.2.2.2.1 h1.2.2.2.2.1 hv
  rw [E1.1, E1.2, E2.1, E2.2]
  exact ⟨am.1, z_Mo_f h1 (fun a q => am.2.1 a (by omega)) (fun j _ => by rw [am.2.1 s (by omega)]) (by rw [am.2.1 75 (by omega)]) (fun a j q => by rw [am.2.2 a (by omega) (by omega)]), fun a q1 q2 => (am.2.1 a q2).trans (f1 a q1), fun a j q1 q2 q3 => by rw [am.2.2 a q2 q3]; exact f2 a j q1⟩
/-- a drawn number -/
theorem z_drawN {x : Int32} (hx : 0 ≤ x.toInt ∧ x.toInt ≤ 65535) : (Int32.ofInt 25173 * x + Int32.ofInt 13849) &&& Int32.ofInt 65535 = (Int32.ofInt 25173 * x + Int32.ofInt 13849) - (Int32.ofInt 25173 * x + Int32.ofInt 13849) / Int32.ofInt 65536 * Int32.ofInt 65536 ∧ 0 ≤ ((Int32.ofInt 25173 * x + Int32.ofInt 13849) &&& Int32.ofInt 65535).toInt ∧ ((Int32.ofInt 25173 * x + Int32.ofInt 13849) &&& Int32.ofInt 65535).toInt ≤ 65535 := by
  have ev : (Int32.ofInt 25173 * x + Int32.ofInt 13849).toInt = 25173 * x.toInt + 13849 := by
    have e : Int32.ofInt 25173 * x + Int32.ofInt 13849 = Int32.ofInt (25173 * x.toInt + 13849) := by rw [Int32.ofInt_add, Int32.ofInt_mul, Int32.ofInt_toInt]
    rw [e]
    exact q_ofr (by omega) (by omega)
  generalize Int32.ofInt 25173 * x + Int32.ofInt 13849 = v at ev
  have hv : 0 ≤ v.toInt := by omega
  have r := z_remE (x := v) (y := Int32.ofInt 65536) hv (by decide)
  rw [show (Int32.ofInt 65536).toInt = 65536 from rfl] at r
  have hn : v.toBitVec.toNat = v.toInt.toNat := by
    have e := z_ofN hv
    have e2 : v.toBitVec = BitVec.ofInt 32 ((v.toInt.toNat : Nat) : Int) := by
      conv => lhs; rw [← e]
      rfl
    rw [e2, BitVec.ofInt_natCast, BitVec.toNat_ofNat, Nat.mod_eq_of_lt]
    have := Int32.toInt_lt v
    omega
  have a : (v &&& Int32.ofInt 65535) = z_i (v.toInt.toNat % 65536) := by
    refine Int32.toBitVec_inj.mp (BitVec.eq_of_toNat_eq ?_)
    rw [Int32.toBitVec_and, BitVec.toNat_and, hn, show (Int32.ofInt 65535).toBitVec.toNat = 2 ^ 16 - 1 from rfl, Nat.and_two_pow_sub_one_eq_mod]
    show _ = (BitVec.ofInt 32 ((v.toInt.toNat % 65536 : Nat) : Int)).toNat
    rw [BitVec.ofInt_natCast, BitVec.toNat_ofNat, Nat.mod_eq_of_lt (show v.toInt.toNat % 65536 < 2 ^ 32 by omega)]
  have a2 : (v &&& Int32.ofInt 65535).toInt = v.toInt % 65536 := by
    rw [a, z_it3 (by omega)]
    omega
  exact ⟨z_inj2 (by rw [a2, r]), by omega, by omega⟩
theorem z_sick_l {c b s nc : Nat} (hc : z_cd c) (hs : z_st s) {S0 T0 : v_Sf} : ∀ (r k : Nat) (S T : v_Sf), r + k = 6 → z_RB c b s nc S0 T0 S T → ∃ S', r_X0_pass_114 c b s r k S = z_s (g_X0_askRules b s S') s 11 (((g_X0_askRules b s S') s 11) + (Int32.ofInt 1)) ∧ z_RB c b s nc S0 T0 S' (r_X12_nursesGo_34 r k T) := by
  have hsn := z_stn hs
  have hcl := z_cdl hc
  intro r
  induction r with
  | zero =>
    intro k S T _ h
    refine ⟨S, by rw [r_X0_pass_114], ?_⟩
    rw [r_X12_nursesGo_34]
    exact h
  | succ r ih =>
    intro k S T hk h
    have hk6 : k < 6 := by omega
    have ek : (z_i k).toInt.toNat = k := z_iin (by omega)
    have h0 := h
    obtain ⟨hM, hP, hF, hG⟩ := h
    have wa := hM.2.1 k hk6
    have wk := z_works hs hk6 hM.1 hM.2.1
    have my := z_many0 hM.1.1 hM.1.2.2.2.2.1 (z_i k)
    rw [r_X0_pass_114, r_X12_nursesGo_34, ek, wa.2.2.2.2.1]
    by_cases g : f_X12_isWell (z_i k) T = 0
    · rw [if_pos g]
      have e : g_X0_sicken c s (z_i k) (T 125 k) S = S := by
        unfold g_X0_sicken
        rw [if_pos (wk.1.mpr g)]
      rw [e]
      exact ih (k + 1) S T (by omega) h0
    · rw [if_neg g]
      by_cases g2 : f_X12_manyIn (z_i k) T = 0
      · rw [if_neg (not_not_intro g2)]
        have e : g_X0_sicken c s (z_i k) (T 125 k) S = S := by
          unfold g_X0_sicken
          rw [if_neg (fun q => g (wk.1.mp q)), if_neg (not_not_intro (my.1.mpr g2))]
        rw [e]
        exact ih (k + 1) S T (by omega) h0
      · rw [if_pos g2]
        have n0 := wk.2 g
        obtain ⟨n, hn, en⟩ : ∃ n, n < 5 ∧ T 125 k = z_i n := ⟨(T 125 k).toInt.toNat, by have := wa.2.2.2.2.2.1; omega, (z_ofN n0).symm⟩
        have ein : (z_i n).toInt.toNat = n := z_iin (by omega)
        have ht : ¬ T 129 n = 0 := by
          intro q
          apply g
          unfold f_X12_isWell f_X12_isThere
          rw [ek, en, ein, if_neg (show ¬ z_in (z_i n) 0 4 = 0 by unfold z_in; rw [z_pb0, decide_eq_false_iff_not, z_it3 (by omega)]; omega), if_pos q, if_pos (by decide)]
          rfl
        have dr := z_drawN hP.2.2.2
        have ex : S s 14 = T 99 2 := hP.2.2.1
        have m1 : z_Mo c s nc (g_X7_draw s S) T := z_Mo_f hM (fun a q => z_sr (by omega)) (fun j q => z_sn (by omega)) (z_sn (by omega)) (fun _ _ _ => rfl)
        obtain ⟨i1, i2, i3, i4⟩ := z_ill hc hs m1 hk6 hn ht
        have e2 : g_X12_falling (z_i n) (z_i k) T 99 2 = T 99 2 := i4 _ _ (by omega) (by omega) (by omega)
        have edr : f_X12_draw (g_X12_falling (z_i n) (z_i k) T) = f_X7_draw s S := by
          unfold f_X12_draw f_X7_draw
          rw [e2, ex, dr.1]
        have es : g_X0_sicken c s (z_i k) (z_i n) S = (if (f_X3_illness c s (z_i k) (z_i n) (g_X7_draw s S)) ≤ (f_X7_draw s S) then g_X3_illness c s (z_i k) (z_i n) (g_X7_draw s S) else z_s (z_s (g_X3_illness c s (z_i k) (z_i n) (g_X7_draw s S)) (s + 8) n (((g_X3_illness c s (z_i k) (z_i n) (g_X7_draw s S)) (s + 7) n) + (Int32.ofInt 1))) 75 4 (((g_X3_illness c s (z_i k) (z_i n) (g_X7_draw s S)) 75 4) + (Int32.ofInt 1))) := by
          unfold g_X0_sicken
          rw [if_neg (fun q => g (wk.1.mp (by rw [en]; exact q))), if_pos (fun q => g2 (my.1.mp q)), ein]
        rw [en, es, i1, edr]
        generalize hA : g_X3_illness c s (z_i k) (z_i n) (g_X7_draw s S) = A at i2 i3 ⊢
        generalize hB : g_X12_falling (z_i n) (z_i k) T = B at i2 i4 e2 ⊢
        -- behind the draw
        have mB : z_Mo c s nc A (g_X12_draw B) := z_Mo_f i2 (fun _ _ => rfl) (fun _ _ => rfl) rfl (fun a j q => z_sn (by omega))
        have pB : z_PX s A (g_X12_draw B) := by
          refine ⟨?_, ?_, ?_⟩
          · intro w hw
            rw [i3 (s + 9) (by omega) (by omega), show g_X7_draw s S (s + 9) = S (s + 9) from z_sr (by omega), show g_X12_draw B 128 w = T 128 w by unfold g_X12_draw; rw [z_sn (by omega)]; exact i4 _ _ (by omega) (by omega) (by omega)]
            exact hP.1 w hw
          · intro w hw
            rw [show g_X12_draw B 128 w = T 128 w by unfold g_X12_draw; rw [z_sn (by omega)]; exact i4 _ _ (by omega) (by omega) (by omega), show g_X12_draw B 127 w = T 127 w by unfold g_X12_draw; rw [z_sn (by omega)]; exact i4 _ _ (by omega) (by omega) (by omega)]
            exact hP.2.1 w hw
          · rw [i3 s (by omega) (by omega)]
            unfold g_X7_draw g_X12_draw
            rw [z_ss, z_ss, e2, ex, ← dr.1]
            exact ⟨rfl, dr.2⟩
        have fA : z_fj (z_mcB c b s) S0 A := fun a j q => by
          have q' := q
          unfold z_mcB z_mc at q'
          rw [i3 a (by omega) (by omega)]
          unfold g_X7_draw
          rw [z_sn (by omega)]
          exact hF a j q
        have fB : z_fj z_mmB T0 (g_X12_draw B) := fun a j q => by
          have q' := q
          unfold z_mmB z_mm at q'
          unfold g_X12_draw
          rw [z_sn (by omega), i4 a j (by omega) (by omega) (by omega)]
          exact hG a j q
        have d125 : g_X12_draw B 125 k = z_i n := by
          unfold g_X12_draw
          rw [z_sn (by omega), i4 _ _ (by omega) (by omega) (by omega), en]
        rw [d125, ein]
        by_cases gi : f_X12_falling (z_i n) (z_i k) T ≤ f_X7_draw s S
        · have gi' := z_leI2.mp gi
          rw [if_pos gi, if_neg (by rw [z_ltI2]; omega)]
          exact ih (k + 1) _ _ (by omega) ⟨mB, pB, fA, fB⟩
        · have gi' : ¬ (f_X12_falling (z_i n) (z_i k) T).toInt ≤ (f_X7_draw s S).toInt := fun q => gi (z_leI2.mpr q)
          rw [if_neg gi, if_pos (by rw [z_ltI2]; omega)]
          have as := mB.1.2.2.2.2.2.2.2.2.1 n hn
          rw [as.1]
          have av : (g_X12_draw B 130 n + Int32.ofInt 1).toInt = (g_X12_draw B 130 n).toInt + 1 := z_addI (by rw [z_n1]; omega)
          have m5 := z_Mo_ill hc hs mB n (v := g_X12_draw B 130 n + Int32.ofInt 1) (by omega)
          refine ih (k + 1) _ _ (by omega) ⟨z_Mo_f m5 (fun a q => z_sr (by omega)) (fun j q => z_sn (by omega)) (z_sn (by omega)) (fun a j q => z_sn (by omega)), z_PX_f pB ?_ ?_ ?_ ?_ ?_, fun a j q => ?_, fun a j q => ?_⟩
          · exact (z_sr (by omega)).trans (z_sr (by omega))
          · rw [z_sn (by omega), z_sn (by omega)]
          · exact (z_sr (by decide)).trans (z_sr (by decide))
          · exact (z_sr (by decide)).trans (z_sr (by decide))
          · rw [z_sn (by omega), z_sn (by omega)]
          · have q' := q
            unfold z_mcB at q'
            rw [z_sn (by omega), z_sn (by omega)]
            exact fA a j q
          · have q' := q
            unfold z_mmB z_mm at q'
            rw [z_sn (by omega), z_sn (by omega)]
            exact fB a j q
