/-! round: the search along the table -/
noncomputable abbrev m_X12_round : g_M := (g_cn 12, yX12_round, cX12_round, 8, (some .int), g_look2 ttX12_round)
set_option maxRecDepth 20000 in
theorem mt_X12_round : g_mt 290 = some m_X12_round := rfl
def v_rg (S : v_Sf) (m : Nat) : Prop := ∀ b l : Nat, 1 ≤ b → b < 2 ^ m - 1 → l < m → ¬ S 171 (8 * b + l) = 0 → ∃ k, 1 ≤ k ∧ k < m ∧ b / 2 ^ k % 2 = 0 ∧ ¬ S 172 (8 * l + k) = 0 ∧ ¬ S 171 (8 * (b + 2 ^ k) + k) = 0
def v_t1 (b k : Nat) : Bool := bif decide (b / 2 ^ k % 2 = 0) then decide ((Int32.ofInt (b : Int) ||| (Int32.ofInt 1 <<< (Int32.ofInt (k : Int) &&& 31))) = Int32.ofInt ((b + 2 ^ k : Nat) : Int)) && decide (v_popN 8 (b + 2 ^ k) = v_popN 8 b + 1) && (List.range 9).all (fun m => bif decide (b < 2 ^ m) && decide (k < m) then decide (b + 2 ^ k < 2 ^ m) else true) else true
theorem v_t1_ok : ((List.range 256).all (fun b => (List.range 8).all (fun k => v_t1 b k))) = true := by decide +kernel
def v_t2 (b m : Nat) : Bool := bif decide (b < 2 ^ m) && decide (v_popN 8 b < m) then decide (b < 2 ^ m - 1) else true
theorem v_t2_ok : ((List.range 256).all (fun b => (List.range 9).all (fun m => v_t2 b m))) = true := by decide +kernel
theorem v_t1_at {b k m : Nat} (h1 : b < 256) (h2 : k < 8) (h3 : b / 2 ^ k % 2 = 0) (hm : m ≤ 8) (h4 : b < 2 ^ m) (h5 : k < m) : (Int32.ofInt (b : Int) ||| (Int32.ofInt 1 <<< (Int32.ofInt (k : Int) &&& 31))) = Int32.ofInt ((b + 2 ^ k : Nat) : Int) ∧ v_popN 8 (b + 2 ^ k) = v_popN 8 b + 1 ∧ b + 2 ^ k < 2 ^ m := by
  have k1 := List.all_eq_true.mp v_t1_ok b (List.mem_range.mpr h1)
  have k2 := List.all_eq_true.mp k1 k (List.mem_range.mpr h2)
  unfold v_t1 at k2
  rw [decide_eq_true h3, cond_true, Bool.and_eq_true, Bool.and_eq_true] at k2
  have k3 := List.all_eq_true.mp k2.2 m (List.mem_range.mpr (by omega))
  rw [decide_eq_true h4, decide_eq_true h5, Bool.and_true, cond_true] at k3
  exact ⟨of_decide_eq_true k2.1.1, of_decide_eq_true k2.1.2, of_decide_eq_true k3⟩
theorem v_t2_at {b m : Nat} (h1 : b < 256) (hm : m ≤ 8) (h4 : b < 2 ^ m) (h5 : v_popN 8 b < m) : b < 2 ^ m - 1 := by
  have k1 := List.all_eq_true.mp v_t2_ok b (List.mem_range.mpr h1)
  have k2 := List.all_eq_true.mp k1 m (List.mem_range.mpr (by omega))
  unfold v_t2 at k2
  rw [decide_eq_true h4, decide_eq_true h5, Bool.and_true, cond_true] at k2
  exact of_decide_eq_true k2
theorem v_m8 {b k : Nat} (hb : b < 1000) (hk : k < 1000) : Int32.ofInt 8 * Int32.ofInt (b : Int) + Int32.ofInt (k : Int) = Int32.ofInt ((8 * b + k : Nat) : Int) := by
  rw [← Int32.ofInt_mul, ← Int32.ofInt_add]
  rfl
section RO
variable {L : Nat} {xs : Nat → Int32} {d : Nat} {Q : Option Value → v_Sf → v_Rf → Prop}
theorem h_rK (S : v_Sf) (R : v_Rf) (nn sI wh iI : Int32) (m b l k9 : Nat) (hm : m ≤ 8) (b1 : b < 256) (bm : b < 2 ^ m) (hl : l < 8) (k1 : k9 < m) (k2 : b / 2 ^ k9 % 2 = 0) (k3 : ¬ S 172 (8 * l + k9) = 0) (k4 : ¬ S 171 (8 * (b + 2 ^ k9) + k9) = 0) (K : ∀ k : Nat, 1 ≤ k → k < m → b / 2 ^ k % 2 = 0 → ¬ S 171 (8 * (b + 2 ^ k) + k) = 0 → w_T L xs (d + 1) m_X12_round 154 [(7, .int (Int32.ofInt (k : Int))), (6, .int iI), (5, .int (Int32.ofInt (l : Int))), (4, .int (Int32.ofInt (b : Int))), (3, .int nn), (0, .ref 100), (1, .int sI), (2, .int wh)] [] S R Q) : ∀ (c k : Nat), k + c = k9 → 1 ≤ k → w_T L xs (d + 1) m_X12_round 101 [(7, .int (Int32.ofInt (k : Int))), (6, .int iI), (5, .int (Int32.ofInt (l : Int))), (4, .int (Int32.ofInt (b : Int))), (3, .int nn), (0, .ref 100), (1, .int sI), (2, .int wh)] [] S R Q := by
  have el := w_nat (k := l) (by omega)
  have eb := w_nat (k := b) (by omega)
  have ebn : (Int32.ofInt (b : Int)).toInt.toNat = b := by rw [eb]; omega
  intro c
  induction c with
  | zero =>
    intro k hk h1
    obtain rfl : k = k9 := by omega
    have ek := w_nat (k := k) (by omega)
    have ekn : (Int32.ofInt (k : Int)).toInt.toNat = k := by rw [ek]; omega
    have hbit := h_bit (Int32.ofInt (b : Int)) (Int32.ofInt (k : Int)) (by omega) (by omega) (by omega)
    rw [ekn, ebn, k2] at hbit
    obtain ⟨t1, t2, t3⟩ := v_t1_at b1 (by omega) k2 hm bm k1
    have t4 : b + 2 ^ k < 256 := Nat.lt_of_lt_of_le t3 (Nat.pow_le_pow_right (by decide) hm)
    have e8 := v_m8 (b := l) (k := k) (by omega) (by omega)
    have e9 := v_m8 (b := b + 2 ^ k) (k := k) (by omega) (by omega)
    have w8 := w_nat (k := 8 * l + k) (by omega)
    have w9 := w_nat (k := 8 * (b + 2 ^ k) + k) (by omega)
    have w8n : (Int32.ofInt ((8 * l + k : Nat) : Int)).toInt.toNat = 8 * l + k := by rw [w8]; omega
    have w9n : (Int32.ofInt ((8 * (b + 2 ^ k) + k : Nat) : Int)).toInt.toNat = 8 * (b + 2 ^ k) + k := by rw [w9]; omega
    refine w_st rfl (fun _ => rfl) ?_
    refine w_st rfl (fun _ => rfl) ?_
    show w_T L xs (d + 1) m_X12_round 105 [(7, .int (Int32.ofInt (k : Int))), (6, .int iI), (5, .int (Int32.ofInt (l : Int))), (4, .int (Int32.ofInt (b : Int))), (3, .int nn), (0, .ref 100), (1, .int sI), (2, .int wh)] [.int (Int32.ofInt (k : Int)), .int (Int32.ofInt (b : Int))] S R Q
    refine w_cs rfl (by decide) mt_X12_has (fun _ => rfl) (Nat.le_of_ble_eq_true rfl) (Nat.le_of_ble_eq_true rfl) ?_
    show w_T L xs _ m_X12_has 0 (lv_args 0 [.int (Int32.ofInt (b : Int)), .int (Int32.ofInt (k : Int))]) [] S R _
    refine h_has _ _ ?_
    rw [hbit]
    show w_T L xs (d + 1) m_X12_round 108 [(7, .int (Int32.ofInt (k : Int))), (6, .int iI), (5, .int (Int32.ofInt (l : Int))), (4, .int (Int32.ofInt (b : Int))), (3, .int nn), (0, .ref 100), (1, .int sI), (2, .int wh)] [.int (Int32.ofInt ((0 : Nat) : Int))] S R Q
    refine w_st rfl (fun _ => rfl) ?_
    refine w_st rfl (fun _ => rfl) ?_
    show w_T L xs (d + 1) m_X12_round 112 [(7, .int (Int32.ofInt (k : Int))), (6, .int iI), (5, .int (Int32.ofInt (l : Int))), (4, .int (Int32.ofInt (b : Int))), (3, .int nn), (0, .ref 100), (1, .int sI), (2, .int wh)] [.ref 100] S R Q
    refine w_getr rfl v_tyM rfl ?_
    refine w_st rfl (fun _ => rfl) ?_
    refine w_st rfl (fun _ => rfl) ?_
    refine w_st rfl (fun _ => rfl) ?_
    refine w_st rfl (fun _ => rfl) ?_
    refine w_st rfl (fun _ => rfl) ?_
    show w_T L xs (d + 1) m_X12_round 123 [(7, .int (Int32.ofInt (k : Int))), (6, .int iI), (5, .int (Int32.ofInt (l : Int))), (4, .int (Int32.ofInt (b : Int))), (3, .int nn), (0, .ref 100), (1, .int sI), (2, .int wh)] [.int (((Int32.ofInt 8) * (Int32.ofInt (l : Int))) + (Int32.ofInt (k : Int))), .ref 173] S R Q
    refine w_bald rfl rfl (by decide) (by rw [e8, w8]; omega) (by rw [e8, w8]; omega) ?_
    rw [e8, w8n]
    show w_T L xs (d + 1) m_X12_round 124 [(7, .int (Int32.ofInt (k : Int))), (6, .int iI), (5, .int (Int32.ofInt (l : Int))), (4, .int (Int32.ofInt (b : Int))), (3, .int nn), (0, .ref 100), (1, .int sI), (2, .int wh)] [.int (S 172 (8 * l + k))] S R Q
    refine w_br (P := (S 172 (8 * l + k)) = 0) rfl (fun _ => rfl) (fun h124 => ?_) (fun h124 => ?_)
    · exact absurd h124 k3
    · refine w_st rfl (fun _ => rfl) ?_
      show w_T L xs (d + 1) m_X12_round 128 [(7, .int (Int32.ofInt (k : Int))), (6, .int iI), (5, .int (Int32.ofInt (l : Int))), (4, .int (Int32.ofInt (b : Int))), (3, .int nn), (0, .ref 100), (1, .int sI), (2, .int wh)] [.ref 100] S R Q
      refine w_getr rfl v_tyM rfl ?_
      refine w_st rfl (fun _ => rfl) ?_
      refine w_st rfl (fun _ => rfl) ?_
      refine w_st rfl (fun _ => rfl) ?_
      refine w_st rfl (fun _ => rfl) ?_
      refine w_st rfl (fun _ => rfl) ?_
      refine w_st rfl (fun _ => rfl) ?_
      refine w_st rfl (fun _ => rfl) ?_
      refine w_st rfl (fun _ => rfl) ?_
      refine w_st rfl (fun _ => rfl) ?_
      show w_T L xs (d + 1) m_X12_round 144 [(7, .int (Int32.ofInt (k : Int))), (6, .int iI), (5, .int (Int32.ofInt (l : Int))), (4, .int (Int32.ofInt (b : Int))), (3, .int nn), (0, .ref 100), (1, .int sI), (2, .int wh)] [.int (((Int32.ofInt 8) * ((Int32.ofInt (b : Int)) ||| ((Int32.ofInt 1) <<< ((Int32.ofInt (k : Int)) &&& 31)))) + (Int32.ofInt (k : Int))), .ref 172] S R Q
      refine w_iald rfl rfl (by rw [t1, e9, w9]; omega) (by rw [t1, e9, w9]; omega) ?_
      rw [t1, e9, w9n]
      show w_T L xs (d + 1) m_X12_round 145 [(7, .int (Int32.ofInt (k : Int))), (6, .int iI), (5, .int (Int32.ofInt (l : Int))), (4, .int (Int32.ofInt (b : Int))), (3, .int nn), (0, .ref 100), (1, .int sI), (2, .int wh)] [.int (S 171 (8 * (b + 2 ^ k) + k))] S R Q
      refine w_br (P := ¬ (S 171 (8 * (b + 2 ^ k) + k)) = 0) rfl (fun _ => rfl) (fun h145 => ?_) (fun h145 => ?_)
      · exact K k h1 k1 k2 k4
      · exact absurd k4 h145
  | succ c ih =>
    intro k hk h1
    have ek := w_nat (k := k) (by omega)
    have ekn : (Int32.ofInt (k : Int)).toInt.toNat = k := by rw [ek]; omega
    have hbit := h_bit (Int32.ofInt (b : Int)) (Int32.ofInt (k : Int)) (by omega) (by omega) (by omega)
    rw [ekn, ebn] at hbit
    have e8 := v_m8 (b := l) (k := k) (by omega) (by omega)
    have w8 := w_nat (k := 8 * l + k) (by omega)
    have w8n : (Int32.ofInt ((8 * l + k : Nat) : Int)).toInt.toNat = 8 * l + k := by rw [w8]; omega
    refine w_st rfl (fun _ => rfl) ?_
    refine w_st rfl (fun _ => rfl) ?_
    show w_T L xs (d + 1) m_X12_round 105 [(7, .int (Int32.ofInt (k : Int))), (6, .int iI), (5, .int (Int32.ofInt (l : Int))), (4, .int (Int32.ofInt (b : Int))), (3, .int nn), (0, .ref 100), (1, .int sI), (2, .int wh)] [.int (Int32.ofInt (k : Int)), .int (Int32.ofInt (b : Int))] S R Q
    refine w_cs rfl (by decide) mt_X12_has (fun _ => rfl) (Nat.le_of_ble_eq_true rfl) (Nat.le_of_ble_eq_true rfl) ?_
    show w_T L xs _ m_X12_has 0 (lv_args 0 [.int (Int32.ofInt (b : Int)), .int (Int32.ofInt (k : Int))]) [] S R _
    refine h_has _ _ ?_
    rw [hbit]
    show w_T L xs (d + 1) m_X12_round 108 [(7, .int (Int32.ofInt (k : Int))), (6, .int iI), (5, .int (Int32.ofInt (l : Int))), (4, .int (Int32.ofInt (b : Int))), (3, .int nn), (0, .ref 100), (1, .int sI), (2, .int wh)] [.int (Int32.ofInt ((b / 2 ^ k % 2 : Nat) : Int))] S R Q
    refine w_br (P := ¬ (Int32.ofInt ((b / 2 ^ k % 2 : Nat) : Int)) = 0) rfl (fun _ => rfl) (fun h108 => ?_) (fun h108 => ?_)
    · refine w_st rfl (fun _ => rfl) ?_
      refine w_st rfl (fun _ => rfl) ?_
      show w_T L xs (d + 1) m_X12_round 101 [(7, .int ((Int32.ofInt (k : Int)) + Int32.ofInt 1)), (6, .int iI), (5, .int (Int32.ofInt (l : Int))), (4, .int (Int32.ofInt (b : Int))), (3, .int nn), (0, .ref 100), (1, .int sI), (2, .int wh)] [] S R Q
      rw [w_inc]
      exact ih (k + 1) (by omega) (by omega)
    · have hz : b / 2 ^ k % 2 = 0 := by
        have h16 := Decidable.of_not_not h108
        have := congrArg Int32.toInt h16
        rw [w_nat (by omega)] at this
        have z0 : (0 : Int32).toInt = 0 := rfl
        omega
      obtain ⟨t1, t2, t3⟩ := v_t1_at b1 (by omega) hz hm bm (show k < m by omega)
      have t4 : b + 2 ^ k < 256 := Nat.lt_of_lt_of_le t3 (Nat.pow_le_pow_right (by decide) hm)
      have e9 := v_m8 (b := b + 2 ^ k) (k := k) (by omega) (by omega)
      have w9 := w_nat (k := 8 * (b + 2 ^ k) + k) (by omega)
      have w9n : (Int32.ofInt ((8 * (b + 2 ^ k) + k : Nat) : Int)).toInt.toNat = 8 * (b + 2 ^ k) + k := by rw [w9]; omega
      refine w_st rfl (fun _ => rfl) ?_
      show w_T L xs (d + 1) m_X12_round 112 [(7, .int (Int32.ofInt (k : Int))), (6, .int iI), (5, .int (Int32.ofInt (l : Int))), (4, .int (Int32.ofInt (b : Int))), (3, .int nn), (0, .ref 100), (1, .int sI), (2, .int wh)] [.ref 100] S R Q
      refine w_getr rfl v_tyM rfl ?_
      refine w_st rfl (fun _ => rfl) ?_
      refine w_st rfl (fun _ => rfl) ?_
      refine w_st rfl (fun _ => rfl) ?_
      refine w_st rfl (fun _ => rfl) ?_
      refine w_st rfl (fun _ => rfl) ?_
      show w_T L xs (d + 1) m_X12_round 123 [(7, .int (Int32.ofInt (k : Int))), (6, .int iI), (5, .int (Int32.ofInt (l : Int))), (4, .int (Int32.ofInt (b : Int))), (3, .int nn), (0, .ref 100), (1, .int sI), (2, .int wh)] [.int (((Int32.ofInt 8) * (Int32.ofInt (l : Int))) + (Int32.ofInt (k : Int))), .ref 173] S R Q
      refine w_bald rfl rfl (by decide) (by rw [e8, w8]; omega) (by rw [e8, w8]; omega) ?_
      rw [e8, w8n]
      show w_T L xs (d + 1) m_X12_round 124 [(7, .int (Int32.ofInt (k : Int))), (6, .int iI), (5, .int (Int32.ofInt (l : Int))), (4, .int (Int32.ofInt (b : Int))), (3, .int nn), (0, .ref 100), (1, .int sI), (2, .int wh)] [.int (S 172 (8 * l + k))] S R Q
      refine w_br (P := (S 172 (8 * l + k)) = 0) rfl (fun _ => rfl) (fun h124 => ?_) (fun h124 => ?_)
      · refine w_st rfl (fun _ => rfl) ?_
        refine w_st rfl (fun _ => rfl) ?_
        show w_T L xs (d + 1) m_X12_round 101 [(7, .int ((Int32.ofInt (k : Int)) + Int32.ofInt 1)), (6, .int iI), (5, .int (Int32.ofInt (l : Int))), (4, .int (Int32.ofInt (b : Int))), (3, .int nn), (0, .ref 100), (1, .int sI), (2, .int wh)] [] S R Q
        rw [w_inc]
        exact ih (k + 1) (by omega) (by omega)
      · refine w_st rfl (fun _ => rfl) ?_
        show w_T L xs (d + 1) m_X12_round 128 [(7, .int (Int32.ofInt (k : Int))), (6, .int iI), (5, .int (Int32.ofInt (l : Int))), (4, .int (Int32.ofInt (b : Int))), (3, .int nn), (0, .ref 100), (1, .int sI), (2, .int wh)] [.ref 100] S R Q
        refine w_getr rfl v_tyM rfl ?_
        refine w_st rfl (fun _ => rfl) ?_
        refine w_st rfl (fun _ => rfl) ?_
        refine w_st rfl (fun _ => rfl) ?_
        refine w_st rfl (fun _ => rfl) ?_
        refine w_st rfl (fun _ => rfl) ?_
        refine w_st rfl (fun _ => rfl) ?_
        refine w_st rfl (fun _ => rfl) ?_
        refine w_st rfl (fun _ => rfl) ?_
        refine w_st rfl (fun _ => rfl) ?_
        show w_T L xs (d + 1) m_X12_round 144 [(7, .int (Int32.ofInt (k : Int))), (6, .int iI), (5, .int (Int32.ofInt (l : Int))), (4, .int (Int32.ofInt (b : Int))), (3, .int nn), (0, .ref 100), (1, .int sI), (2, .int wh)] [.int (((Int32.ofInt 8) * ((Int32.ofInt (b : Int)) ||| ((Int32.ofInt 1) <<< ((Int32.ofInt (k : Int)) &&& 31)))) + (Int32.ofInt (k : Int))), .ref 172] S R Q
        refine w_iald rfl rfl (by rw [t1, e9, w9]; omega) (by rw [t1, e9, w9]; omega) ?_
        rw [t1, e9, w9n]
        show w_T L xs (d + 1) m_X12_round 145 [(7, .int (Int32.ofInt (k : Int))), (6, .int iI), (5, .int (Int32.ofInt (l : Int))), (4, .int (Int32.ofInt (b : Int))), (3, .int nn), (0, .ref 100), (1, .int sI), (2, .int wh)] [.int (S 171 (8 * (b + 2 ^ k) + k))] S R Q
        refine w_br (P := ¬ (S 171 (8 * (b + 2 ^ k) + k)) = 0) rfl (fun _ => rfl) (fun h145 => ?_) (fun h145 => ?_)
        · exact K k h1 (by omega) hz h145
        · refine w_st rfl (fun _ => rfl) ?_
          refine w_st rfl (fun _ => rfl) ?_
          show w_T L xs (d + 1) m_X12_round 101 [(7, .int ((Int32.ofInt (k : Int)) + Int32.ofInt 1)), (6, .int iI), (5, .int (Int32.ofInt (l : Int))), (4, .int (Int32.ofInt (b : Int))), (3, .int nn), (0, .ref 100), (1, .int sI), (2, .int wh)] [] S R Q
          rw [w_inc]
          exact ih (k + 1) (by omega) (by omega)
end RO
