/-! round: its row -/
section RW
variable {L : Nat} {xs : Nat → Int32} {d : Nat} {Q : Option Value → v_Sf → v_Rf → Prop} {m : Nat}
theorem r_wA (S : v_Sf) (R : v_Rf) (nn sI : Int32) (i w b l : Nat) (hm : m ≤ 8) (hw : i < w) (hwm : w < m) (hp : v_popN 8 b = i + 1) (b1 : b < 2 ^ m) (b0 : 1 ≤ b) (hl : l < m) (hn : ¬ S 171 (8 * b + l) = 0) (hG : v_rg S m) (K : ∀ (x7 : Int32) (b' l' : Nat), v_popN 8 b' = i + 1 + 1 → b' < 2 ^ m → 1 ≤ b' → l' < m → ¬ S 171 (8 * b' + l') = 0 → w_T L xs (d + 1) m_X12_round 92 [(6, .int ((Int32.ofInt ((i + 1 : Nat) : Int)))), (5, .int ((Int32.ofInt (l' : Int)))), (4, .int ((Int32.ofInt (b' : Int)))), (7, .int x7), (3, .int nn), (0, .ref 100), (1, .int sI), (2, .int (Int32.ofInt (w : Int)))] [] S R Q) : w_T L xs (d + 1) m_X12_round 92 [(6, .int (Int32.ofInt (i : Int))), (5, .int (Int32.ofInt (l : Int))), (4, .int (Int32.ofInt (b : Int))), (3, .int nn), (0, .ref 100), (1, .int sI), (2, .int (Int32.ofInt (w : Int)))] [] S R Q := by
  have p8 := r_p8 ⟨m, by omega⟩
  dsimp only at p8
  have ei := w_nat (k := i) (by omega)
  have ew := w_nat (k := w) (by omega)
  obtain ⟨k9, g1, g2, g3, g4, g5⟩ := hG b l b0 (v_t2_at (by omega) hm b1 (by omega)) hl hn
  refine w_st rfl (fun _ => rfl) ?_
  refine w_st rfl (fun _ => rfl) ?_
  show w_T L xs (d + 1) m_X12_round 95 [(6, .int (Int32.ofInt (i : Int))), (5, .int (Int32.ofInt (l : Int))), (4, .int (Int32.ofInt (b : Int))), (3, .int nn), (0, .ref 100), (1, .int sI), (2, .int (Int32.ofInt (w : Int)))] [.int (Int32.ofInt (w : Int)), .int (Int32.ofInt (i : Int))] S R Q
  refine w_br (P := (Int32.ofInt (w : Int)) ≤ (Int32.ofInt (i : Int))) rfl (fun _ => rfl) (fun h95 => ?_) (fun h95 => ?_)
  · exfalso; rw [q_le32, ew, ei] at h95; omega
  · refine w_st rfl (fun _ => rfl) ?_
    refine w_st rfl (fun _ => rfl) ?_
    show w_T L xs (d + 1) m_X12_round 101 [(7, .int (Int32.ofInt 1)), (6, .int (Int32.ofInt (i : Int))), (5, .int (Int32.ofInt (l : Int))), (4, .int (Int32.ofInt (b : Int))), (3, .int nn), (0, .ref 100), (1, .int sI), (2, .int (Int32.ofInt (w : Int)))] [] S R Q
    refine h_rK S R nn sI _ _ m b l k9 hm (by omega) b1 (by omega) g2 g3 g4 g5 (fun k k1 k2 k3 k4 => ?_) (k9 - 1) 1 (by omega) (by omega)
    obtain ⟨t1, t2, t3⟩ := v_t1_at (by omega) (by omega) k3 hm b1 k2
    refine w_st rfl (fun _ => rfl) ?_
    refine w_st rfl (fun _ => rfl) ?_
    refine w_st rfl (fun _ => rfl) ?_
    refine w_st rfl (fun _ => rfl) ?_
    refine w_st rfl (fun _ => rfl) ?_
    refine w_st rfl (fun _ => rfl) ?_
    refine w_st rfl (fun _ => rfl) ?_
    refine w_st rfl (fun _ => rfl) ?_
    refine w_st rfl (fun _ => rfl) ?_
    refine w_st rfl (fun _ => rfl) ?_
    show w_T L xs (d + 1) m_X12_round 92 [(6, .int ((Int32.ofInt (i : Int)) + Int32.ofInt 1)), (5, .int (Int32.ofInt (k : Int))), (4, .int ((Int32.ofInt (b : Int)) ||| ((Int32.ofInt 1) <<< ((Int32.ofInt (k : Int)) &&& 31)))), (7, .int (Int32.ofInt (k : Int))), (3, .int nn), (0, .ref 100), (1, .int sI), (2, .int (Int32.ofInt (w : Int)))] [] S R Q
    rw [t1, w_inc]
    exact K _ _ _ (by omega) t3 (Nat.le_trans b0 (Nat.le_add_right _ _)) k2 k4
theorem r_wB (S : v_Sf) (R : v_Rf) (nn sI : Int32) (x7 : Int32) (i w b l : Nat) (hm : m ≤ 8) (hw : i < w) (hwm : w < m) (hp : v_popN 8 b = i + 1) (b1 : b < 2 ^ m) (b0 : 1 ≤ b) (hl : l < m) (hn : ¬ S 171 (8 * b + l) = 0) (hG : v_rg S m) (K : ∀ (x7 : Int32) (b' l' : Nat), v_popN 8 b' = i + 1 + 1 → b' < 2 ^ m → 1 ≤ b' → l' < m → ¬ S 171 (8 * b' + l') = 0 → w_T L xs (d + 1) m_X12_round 92 [(6, .int ((Int32.ofInt ((i + 1 : Nat) : Int)))), (5, .int ((Int32.ofInt (l' : Int)))), (4, .int ((Int32.ofInt (b' : Int)))), (7, .int x7), (3, .int nn), (0, .ref 100), (1, .int sI), (2, .int (Int32.ofInt (w : Int)))] [] S R Q) : w_T L xs (d + 1) m_X12_round 92 [(6, .int (Int32.ofInt (i : Int))), (5, .int (Int32.ofInt (l : Int))), (4, .int (Int32.ofInt (b : Int))), (7, .int x7), (3, .int nn), (0, .ref 100), (1, .int sI), (2, .int (Int32.ofInt (w : Int)))] [] S R Q := by
  have p8 := r_p8 ⟨m, by omega⟩
  dsimp only at p8
  have ei := w_nat (k := i) (by omega)
  have ew := w_nat (k := w) (by omega)
  obtain ⟨k9, g1, g2, g3, g4, g5⟩ := hG b l b0 (v_t2_at (by omega) hm b1 (by omega)) hl hn
  refine w_st rfl (fun _ => rfl) ?_
  refine w_st rfl (fun _ => rfl) ?_
  show w_T L xs (d + 1) m_X12_round 95 [(6, .int (Int32.ofInt (i : Int))), (5, .int (Int32.ofInt (l : Int))), (4, .int (Int32.ofInt (b : Int))), (7, .int x7), (3, .int nn), (0, .ref 100), (1, .int sI), (2, .int (Int32.ofInt (w : Int)))] [.int (Int32.ofInt (w : Int)), .int (Int32.ofInt (i : Int))] S R Q
  refine w_br (P := (Int32.ofInt (w : Int)) ≤ (Int32.ofInt (i : Int))) rfl (fun _ => rfl) (fun h95 => ?_) (fun h95 => ?_)
  · exfalso; rw [q_le32, ew, ei] at h95; omega
  · refine w_st rfl (fun _ => rfl) ?_
    refine w_st rfl (fun _ => rfl) ?_
    show w_T L xs (d + 1) m_X12_round 101 [(7, .int (Int32.ofInt 1)), (6, .int (Int32.ofInt (i : Int))), (5, .int (Int32.ofInt (l : Int))), (4, .int (Int32.ofInt (b : Int))), (3, .int nn), (0, .ref 100), (1, .int sI), (2, .int (Int32.ofInt (w : Int)))] [] S R Q
    refine h_rK S R nn sI _ _ m b l k9 hm (by omega) b1 (by omega) g2 g3 g4 g5 (fun k k1 k2 k3 k4 => ?_) (k9 - 1) 1 (by omega) (by omega)
    obtain ⟨t1, t2, t3⟩ := v_t1_at (by omega) (by omega) k3 hm b1 k2
    refine w_st rfl (fun _ => rfl) ?_
    refine w_st rfl (fun _ => rfl) ?_
    refine w_st rfl (fun _ => rfl) ?_
    refine w_st rfl (fun _ => rfl) ?_
    refine w_st rfl (fun _ => rfl) ?_
    refine w_st rfl (fun _ => rfl) ?_
    refine w_st rfl (fun _ => rfl) ?_
    refine w_st rfl (fun _ => rfl) ?_
    refine w_st rfl (fun _ => rfl) ?_
    refine w_st rfl (fun _ => rfl) ?_
    show w_T L xs (d + 1) m_X12_round 92 [(6, .int ((Int32.ofInt (i : Int)) + Int32.ofInt 1)), (5, .int (Int32.ofInt (k : Int))), (4, .int ((Int32.ofInt (b : Int)) ||| ((Int32.ofInt 1) <<< ((Int32.ofInt (k : Int)) &&& 31)))), (7, .int (Int32.ofInt (k : Int))), (3, .int nn), (0, .ref 100), (1, .int sI), (2, .int (Int32.ofInt (w : Int)))] [] S R Q
    rw [t1, w_inc]
    exact K _ _ _ (by omega) t3 (Nat.le_trans b0 (Nat.le_add_right _ _)) k2 k4
theorem r_wL (S : v_Sf) (R : v_Rf) (nn sI : Int32) (w : Nat) (hm : m ≤ 8) (hwm : w < m) (hG : v_rg S m) (hq : ∀ v : Int32, Q (some (.int v)) S R) : ∀ (c i b l : Nat) (x7 : Int32), i + c = w → v_popN 8 b = i + 1 → b < 2 ^ m → 1 ≤ b → l < m → ¬ S 171 (8 * b + l) = 0 → w_T L xs (d + 1) m_X12_round 92 [(6, .int (Int32.ofInt (i : Int))), (5, .int (Int32.ofInt (l : Int))), (4, .int (Int32.ofInt (b : Int))), (7, .int x7), (3, .int nn), (0, .ref 100), (1, .int sI), (2, .int (Int32.ofInt (w : Int)))] [] S R Q := by
  intro c
  induction c with
  | zero =>
    intro i b l x7 hi hp b1 b0 hl hn
    obtain rfl : i = w := by omega
    have el := w_nat (k := l) (by omega)
    refine w_st rfl (fun _ => rfl) ?_
    refine w_st rfl (fun _ => rfl) ?_
    show w_T L xs (d + 1) m_X12_round 95 [(6, .int (Int32.ofInt (i : Int))), (5, .int (Int32.ofInt (l : Int))), (4, .int (Int32.ofInt (b : Int))), (7, .int x7), (3, .int nn), (0, .ref 100), (1, .int sI), (2, .int (Int32.ofInt (i : Int)))] [.int (Int32.ofInt (i : Int)), .int (Int32.ofInt (i : Int))] S R Q
    refine w_br (P := (Int32.ofInt (i : Int)) ≤ (Int32.ofInt (i : Int))) rfl (fun _ => rfl) (fun h95 => ?_) (fun h95 => ?_)
    · refine w_st rfl (fun _ => rfl) ?_
      show w_T L xs (d + 1) m_X12_round 174 [(6, .int (Int32.ofInt (i : Int))), (5, .int (Int32.ofInt (l : Int))), (4, .int (Int32.ofInt (b : Int))), (7, .int x7), (3, .int nn), (0, .ref 100), (1, .int sI), (2, .int (Int32.ofInt (i : Int)))] [.ref 100] S R Q
      refine w_getr rfl v_tyM rfl ?_
      refine w_st rfl (fun _ => rfl) ?_
      show w_T L xs (d + 1) m_X12_round 179 [(6, .int (Int32.ofInt (i : Int))), (5, .int (Int32.ofInt (l : Int))), (4, .int (Int32.ofInt (b : Int))), (7, .int x7), (3, .int nn), (0, .ref 100), (1, .int sI), (2, .int (Int32.ofInt (i : Int)))] [.int (Int32.ofInt (l : Int)), .ref 153] S R Q
      refine w_iald rfl rfl (by rw [el]; omega) (by rw [el]; omega) ?_
      show w_T L xs (d + 1) m_X12_round 180 [(6, .int (Int32.ofInt (i : Int))), (5, .int (Int32.ofInt (l : Int))), (4, .int (Int32.ofInt (b : Int))), (7, .int x7), (3, .int nn), (0, .ref 100), (1, .int sI), (2, .int (Int32.ofInt (i : Int)))] [.int (S 152 (Int32.ofInt (l : Int)).toInt.toNat)] S R Q
      refine w_ret rfl (by rfl) ?_
      exact hq _
    · exfalso; rw [q_le32] at h95; omega
  | succ c ih =>
    intro i b l x7 hi hp b1 b0 hl hn
    exact r_wB S R nn sI x7 i w b l hm (by omega) hwm hp b1 b0 hl hn hG (fun x7 b' l' y1 y2 y3 y4 y5 => ih (i + 1) b' l' x7 (by omega) y1 y2 y3 y4 y5)
theorem r_w0 (S : v_Sf) (R : v_Rf) (nn sI : Int32) (w : Nat) (hm : m ≤ 8) (hm1 : 1 ≤ m) (hwm : w < m) (hG : v_rg S m) (hn : ¬ S 171 8 = 0) (hq : ∀ v : Int32, Q (some (.int v)) S R) : w_T L xs (d + 1) m_X12_round 92 [(6, .int ((Int32.ofInt ((0 : Nat) : Int)))), (5, .int ((Int32.ofInt ((0 : Nat) : Int)))), (4, .int ((Int32.ofInt ((1 : Nat) : Int)))), (3, .int nn), (0, .ref 100), (1, .int sI), (2, .int (Int32.ofInt (w : Int)))] [] S R Q := by
  have hp2 : 2 ≤ 2 ^ m := Nat.le_trans (by decide : 2 ≤ 2 ^ 1) (Nat.pow_le_pow_right (by decide) hm1)
  by_cases h0 : w = 0
  · subst h0
    refine w_st rfl (fun _ => rfl) ?_
    refine w_st rfl (fun _ => rfl) ?_
    show w_T L xs (d + 1) m_X12_round 95 [(6, .int (Int32.ofInt ((0 : Nat) : Int))), (5, .int (Int32.ofInt ((0 : Nat) : Int))), (4, .int (Int32.ofInt ((1 : Nat) : Int))), (3, .int nn), (0, .ref 100), (1, .int sI), (2, .int (Int32.ofInt ((0 : Nat) : Int)))] [.int (Int32.ofInt ((0 : Nat) : Int)), .int (Int32.ofInt ((0 : Nat) : Int))] S R Q
    refine w_st rfl (fun _ => rfl) ?_
    refine w_st rfl (fun _ => rfl) ?_
    show w_T L xs (d + 1) m_X12_round 174 [(6, .int (Int32.ofInt ((0 : Nat) : Int))), (5, .int (Int32.ofInt ((0 : Nat) : Int))), (4, .int (Int32.ofInt ((1 : Nat) : Int))), (3, .int nn), (0, .ref 100), (1, .int sI), (2, .int (Int32.ofInt ((0 : Nat) : Int)))] [.ref 100] S R Q
    refine w_getr rfl v_tyM rfl ?_
    refine w_st rfl (fun _ => rfl) ?_
    show w_T L xs (d + 1) m_X12_round 179 [(6, .int (Int32.ofInt ((0 : Nat) : Int))), (5, .int (Int32.ofInt ((0 : Nat) : Int))), (4, .int (Int32.ofInt ((1 : Nat) : Int))), (3, .int nn), (0, .ref 100), (1, .int sI), (2, .int (Int32.ofInt ((0 : Nat) : Int)))] [.int (Int32.ofInt ((0 : Nat) : Int)), .ref 153] S R Q
    refine w_iald rfl rfl (by decide) (by decide) ?_
    show w_T L xs (d + 1) m_X12_round 180 [(6, .int (Int32.ofInt ((0 : Nat) : Int))), (5, .int (Int32.ofInt ((0 : Nat) : Int))), (4, .int (Int32.ofInt ((1 : Nat) : Int))), (3, .int nn), (0, .ref 100), (1, .int sI), (2, .int (Int32.ofInt ((0 : Nat) : Int)))] [.int (S 152 (Int32.ofInt ((0 : Nat) : Int)).toInt.toNat)] S R Q
    refine w_ret rfl (by rfl) ?_
    exact hq _
  · exact r_wA S R nn sI 0 w 1 0 hm (by omega) hwm rfl (by omega) (by omega) (by omega) hn hG (fun x7 b' l' y1 y2 y3 y4 y5 => r_wL S R nn sI w hm hwm hG hq (w - 1) (0 + 1) b' l' x7 (by omega) y1 y2 y3 y4 y5)
end RW
set_option maxHeartbeats 2000000 in
theorem hr_X12_round {L : Nat} {xs : Nat → Int32} (ih : ∀ x, ∀ w ∈ v_rw x, w.1 < rw_263.1 → v_Met L xs v_ty v_Op x w) : v_Met L xs v_ty v_Op 290 rw_263 := by
  have hG := ih 249 rw_222 (List.mem_of_getElem? (i := 0) rfl) (Nat.le_of_ble_eq_true rfl)
  have hD := ih 207 rw_192 (List.mem_of_getElem? (i := 0) rfl) (Nat.le_of_ble_eq_true rfl)
  intro M hM ac S R ha hT hO
  rw [mt_X12_round] at hM
  cases hM
  match ac, ha with
  | [r0, w1, w2], ⟨h0, ⟨sI, hg, _, _⟩, ⟨wh, hg2, _, _⟩, _⟩ =>
  have h0 : r0 = .ref 100 := h0
  subst h0 hg hg2
  show w_T L xs (2 + 9 + 1) m_X12_round 0 (lv_args 0 [.ref 100, .int sI, .int wh]) [] S R (fun (r : Option Value) (S' : v_Sf) (R' : v_Rf) => v_Tb v_ty S' R' ∧ v_Op S' ∧ v_rk1 (some ((-2147483648), 2147483647)) r ∧ v_Fr [(99, 27, 40), (114, 0, 240), (115, 0, 240), (152, 0, 12), (171, 0, 2048), (172, 0, 64)] S R S' R')
  generalize hQ : (fun (r : Option Value) (S' : v_Sf) (R' : v_Rf) => v_Tb v_ty S' R' ∧ v_Op S' ∧ v_rk1 (some ((-2147483648), 2147483647)) r ∧ v_Fr [(99, 27, 40), (114, 0, 240), (115, 0, 240), (152, 0, 12), (171, 0, 2048), (172, 0, 64)] S R S' R') = Q
  have hq : ∀ (S' : v_Sf) (R' : v_Rf) (v : Int32), r_J S R S' R' → Q (some (.int v)) S' R' := fun S' R' v a1 => by
    rw [← hQ]
    exact ⟨a1.1, a1.2.1, ⟨v, rfl, (q_rng v).1, (q_rng v).2⟩, a1.2.2⟩
  have c3 : ∀ j, j ≤ 12 → v_md [(99, 27, 40), (114, 0, 240), (115, 0, 240), (152, 0, 12), (171, 0, 2048), (172, 0, 64)] 152 j j = true := fun j hj => v_md_mono (lo := 0) (hi := 12) (by decide +kernel) (Nat.zero_le _) hj
  have f3 : ∀ j, v_frz 152 j j = false := fun j => rfl
  have hJ0 : r_J S R S R := ⟨hT, hO, v_Fr_rf _ _ _⟩
  have l0 : (Int64.ofNat 0).toInt = 0 := by decide
  have e8c : (Int32.ofInt 8).toInt = 8 := by decide
  have e3c : (Int32.ofInt 3).toInt = 3 := by decide
  have tail : 1 ≤ sI.toInt → sI.toInt ≤ 4095 → 3 ≤ (v_pop sI).toInt → (v_pop sI).toInt ≤ 8 → (wh = Int32.ofInt 20 ∨ (0 ≤ wh.toInt ∧ wh.toInt < (v_pop sI).toInt)) → w_T L xs (2 + 9 + 1) m_X12_round 35 [(0, .ref 100), (1, .int sI), (2, .int wh)] [] S R Q := by
    intro s1 s2 s3 s4 hwh
    obtain ⟨m, em, hm1, hm2⟩ : ∃ m : Nat, v_pop sI = Int32.ofInt (m : Int) ∧ 3 ≤ m ∧ m ≤ 8 := ⟨_, p_nof (by omega), by omega, by omega⟩
    have emn := w_nat (k := m) (by omega)
    refine w_st rfl (fun _ => rfl) ?_
    refine w_st rfl (fun _ => rfl) ?_
    show w_T L xs (2 + 9 + 1) m_X12_round 37 [(0, .ref 100), (1, .int sI), (2, .int wh)] [.int sI, .ref 100] S R Q
    refine w_cv rfl (by decide) mt_X12_takesSome v_tyM rfl rfl rfl (Nat.le_of_ble_eq_true rfl) (Nat.le_of_ble_eq_true rfl) (Nat.le_of_ble_eq_true rfl) ?_
    show w_T L xs _ m_X12_takesSome 0 (lv_args 0 [.ref 100, .int sI]) [] S R _
    refine h_X12_takesSome (d := 10) sI S (by omega) (by omega) hT (fun S1 hT1 hS1 => ?_)
    have hO1 : v_Op S1 := v_fz_ok.1 S S1 (fun a j hf => hS1 a j (fun e => by rw [e.1, f3] at hf; cases hf)) hO
    have hJ1 : r_J S R S1 R := ⟨hT1, hO1, fun a j hm => ⟨hS1 a j (fun e => by rw [e.1, c3 j e.2] at hm; cases hm), rfl⟩⟩
    rw [em]
    refine w_st rfl (fun _ => rfl) ?_
    refine w_st rfl (fun _ => rfl) ?_
    refine w_st rfl (fun _ => rfl) ?_
    show w_T L xs (2 + 9 + 1) m_X12_round 43 [(3, .int (Int32.ofInt (m : Int))), (0, .ref 100), (1, .int sI), (2, .int wh)] [.int (Int32.ofInt (m : Int)), .ref 100] S1 R Q
    refine w_cv rfl (by decide) mt_X12_laysRing v_tyM rfl rfl rfl (Nat.le_of_ble_eq_true rfl) (Nat.le_of_ble_eq_true rfl) (Nat.le_of_ble_eq_true rfl) ?_
    show w_T L xs _ m_X12_laysRing 0 (lv_args 0 [.ref 100, .int (Int32.ofInt (m : Int))]) [] S1 R _
    refine r_lays (d := 2) hD hm2 (by omega) S1 R hJ1 (fun S2 R2 hJ2 hP2 => ?_)
    have hrg : v_rg S2 m := fun b l g1 g2 g3 g4 => hP2 b l g1 g2 g3 g4
    refine w_st rfl (fun _ => rfl) ?_
    show w_T L xs (2 + 9 + 1) m_X12_round 47 [(3, .int (Int32.ofInt (m : Int))), (0, .ref 100), (1, .int sI), (2, .int wh)] [.ref 100] S2 R2 Q
    refine w_getr rfl v_tyM rfl ?_
    refine w_st rfl (fun _ => rfl) ?_
    show w_T L xs (2 + 9 + 1) m_X12_round 52 [(3, .int (Int32.ofInt (m : Int))), (0, .ref 100), (1, .int sI), (2, .int wh)] [.int (Int32.ofInt 8), .ref 172] S2 R2 Q
    refine w_iald rfl rfl (by decide) (by decide) ?_
    rw [show (Int32.ofInt 8).toInt.toNat = 8 by decide]
    show w_T L xs (2 + 9 + 1) m_X12_round 53 [(3, .int (Int32.ofInt (m : Int))), (0, .ref 100), (1, .int sI), (2, .int wh)] [.int (S2 171 8)] S2 R2 Q
    refine w_br (P := ¬ (S2 171 8) = 0) rfl (fun _ => rfl) (fun h53 => ?_) (fun h53 => ?_)
    · refine w_st rfl (fun _ => rfl) ?_
      refine w_st rfl (fun _ => rfl) ?_
      show w_T L xs (2 + 9 + 1) m_X12_round 72 [(3, .int (Int32.ofInt (m : Int))), (0, .ref 100), (1, .int sI), (2, .int wh)] [.int (Int32.ofInt 20), .int wh] S2 R2 Q
      refine w_br (P := ¬ wh = (Int32.ofInt 20)) rfl (fun _ => rfl) (fun h72 => ?_) (fun h72 => ?_)
      · refine w_st rfl (fun _ => rfl) ?_
        refine w_st rfl (fun _ => rfl) ?_
        refine w_st rfl (fun _ => rfl) ?_
        refine w_st rfl (fun _ => rfl) ?_
        refine w_st rfl (fun _ => rfl) ?_
        refine w_st rfl (fun _ => rfl) ?_
        show w_T L xs (2 + 9 + 1) m_X12_round 92 [(6, .int (Int32.ofInt 0)), (5, .int (Int32.ofInt 0)), (4, .int (Int32.ofInt 1)), (3, .int (Int32.ofInt (m : Int))), (0, .ref 100), (1, .int sI), (2, .int wh)] [] S2 R2 Q
        have hwr := hwh.resolve_left h72
        obtain ⟨w, rfl, hwl⟩ : ∃ w : Nat, wh = Int32.ofInt (w : Int) ∧ w < m := ⟨_, p_nof hwr.1, by rw [em, emn] at hwr; omega⟩
        exact r_w0 (d := 11) S2 R2 _ sI w hm2 (by omega) hwl hrg h53 (fun v => hq S2 R2 v hJ2)
      · refine w_st rfl (fun _ => rfl) ?_
        show w_T L xs (2 + 9 + 1) m_X12_round 76 [(3, .int (Int32.ofInt (m : Int))), (0, .ref 100), (1, .int sI), (2, .int wh)] [.ref 100] S2 R2 Q
        refine w_getr rfl v_tyM rfl ?_
        refine w_st rfl (fun _ => rfl) ?_
        show w_T L xs (2 + 9 + 1) m_X12_round 81 [(3, .int (Int32.ofInt (m : Int))), (0, .ref 100), (1, .int sI), (2, .int wh)] [.int (Int32.ofInt 8), .ref 172] S2 R2 Q
        refine w_iald rfl rfl (by decide) (by decide) ?_
        rw [show (Int32.ofInt 8).toInt.toNat = 8 by decide]
        show w_T L xs (2 + 9 + 1) m_X12_round 82 [(3, .int (Int32.ofInt (m : Int))), (0, .ref 100), (1, .int sI), (2, .int wh)] [.int (S2 171 8)] S2 R2 Q
        refine w_ret rfl (by rfl) ?_
        exact hq _ _ _ hJ2
    · refine w_st rfl (fun _ => rfl) ?_
      refine w_st rfl (fun _ => rfl) ?_
      show w_T L xs (2 + 9 + 1) m_X12_round 59 [(3, .int (Int32.ofInt (m : Int))), (0, .ref 100), (1, .int sI), (2, .int wh)] [.int (Int32.ofInt 20), .int wh] S2 R2 Q
      refine w_br (P := ¬ wh = (Int32.ofInt 20)) rfl (fun _ => rfl) (fun h59 => ?_) (fun h59 => ?_)
      · refine w_st rfl (fun _ => rfl) ?_
        show w_T L xs (2 + 9 + 1) m_X12_round 68 [(3, .int (Int32.ofInt (m : Int))), (0, .ref 100), (1, .int sI), (2, .int wh)] [.int (Int32.ofInt (-2))] S2 R2 Q
        refine w_ret rfl (by rfl) ?_
        exact hq _ _ _ hJ2
      · refine w_st rfl (fun _ => rfl) ?_
        refine w_st rfl (fun _ => rfl) ?_
        show w_T L xs (2 + 9 + 1) m_X12_round 68 [(3, .int (Int32.ofInt (m : Int))), (0, .ref 100), (1, .int sI), (2, .int wh)] [.int (Int32.ofInt 0)] S2 R2 Q
        refine w_ret rfl (by rfl) ?_
        exact hq _ _ _ hJ2
  refine w_st rfl (fun _ => rfl) ?_
  refine w_st rfl (fun _ => rfl) ?_
  refine w_st rfl (fun _ => rfl) ?_
  refine w_st rfl (fun _ => rfl) ?_
  show w_T L xs (2 + 9 + 1) m_X12_round 5 [(0, .ref 100), (1, .int sI), (2, .int wh)] [.int (Int32.ofInt 8), .int (Int32.ofInt 3), .int sI, .ref 100] S R Q
  refine w_cv rfl (by decide) mt_X12_areGusts v_tyM rfl rfl rfl (Nat.le_of_ble_eq_true rfl) (Nat.le_of_ble_eq_true rfl) (Nat.le_of_ble_eq_true rfl) ?_
  show w_T L xs _ m_X12_areGusts 0 (lv_args 0 [.ref 100, .int sI, .int (Int32.ofInt 3), .int (Int32.ofInt 8)]) [] S R _
  refine h_areGusts (d := 10) hG S R sI _ _ hT hO (fun u hu => ?_)
  show w_T L xs (2 + 9 + 1) m_X12_round 8 [(0, .ref 100), (1, .int sI), (2, .int wh)] [.int u] S R Q
  refine w_br (P := u = 0) rfl (fun _ => rfl) (fun h8 => ?_) (fun h8 => ?_)
  · refine w_st rfl (fun _ => rfl) ?_
    show w_T L xs (2 + 9 + 1) m_X12_round 34 [(0, .ref 100), (1, .int sI), (2, .int wh)] [.int (Int32.ofInt (-1))] S R Q
    refine w_ret rfl (by rfl) ?_
    exact hq _ _ _ hJ0
  · have hu := hu.resolve_left (fun e => h8 e)
    refine w_st rfl (fun _ => rfl) ?_
    refine w_st rfl (fun _ => rfl) ?_
    show w_T L xs (2 + 9 + 1) m_X12_round 14 [(0, .ref 100), (1, .int sI), (2, .int wh)] [.int (Int32.ofInt 20), .int wh] S R Q
    refine w_br (P := wh = (Int32.ofInt 20)) rfl (fun _ => rfl) (fun h14 => ?_) (fun h14 => ?_)
    · exact tail hu.1 hu.2.1 (by have := hu.2.2.1; rw [e3c] at this; exact this) (by have := hu.2.2.2; rw [e8c] at this; exact this) (Or.inl h14)
    · refine w_st rfl (fun _ => rfl) ?_
      refine w_st rfl (fun _ => rfl) ?_
      refine w_st rfl (fun _ => rfl) ?_
      refine w_st rfl (fun _ => rfl) ?_
      show w_T L xs (2 + 9 + 1) m_X12_round 21 [(0, .ref 100), (1, .int sI), (2, .int wh)] [.int sI, .long (Int64.ofNat 0), .long wh.toInt64] S R Q
      refine w_cs rfl (by decide) mt_X12_sizeOf (fun _ => rfl) (Nat.le_of_ble_eq_true rfl) (Nat.le_of_ble_eq_true rfl) ?_
      show w_T L xs _ m_X12_sizeOf 0 (lv_args 0 [.int sI]) [] S R _
      refine h_sizeOf _ ?_
      refine w_st rfl (fun _ => rfl) ?_
      refine w_st rfl (fun _ => rfl) ?_
      refine w_st rfl (fun _ => rfl) ?_
      show w_T L xs (2 + 9 + 1) m_X12_round 27 [(0, .ref 100), (1, .int sI), (2, .int wh)] [.long (((v_pop sI) - (Int32.ofInt 1)).toInt64), .long (Int64.ofNat 0), .long wh.toInt64] S R Q
      refine w_cs rfl (by decide) mt_X12_lies (fun _ => rfl) (Nat.le_of_ble_eq_true rfl) (Nat.le_of_ble_eq_true rfl) ?_
      show w_T L xs _ m_X12_lies 0 (lv_args 0 [.long wh.toInt64, .long (Int64.ofNat 0), .long (((v_pop sI) - (Int32.ofInt 1)).toInt64)]) [] S R _
      refine h_lies _ _ _ ?_
      rw [l0, Int32.toInt_toInt64, Int32.toInt_toInt64]
      show w_T L xs (2 + 9 + 1) m_X12_round 30 [(0, .ref 100), (1, .int sI), (2, .int wh)] [.int (if 0 ≤ wh.toInt ∧ wh.toInt ≤ (v_pop sI - Int32.ofInt 1).toInt then 1 else 0)] S R Q
      refine w_br (P := ¬ (if 0 ≤ wh.toInt ∧ wh.toInt ≤ (v_pop sI - Int32.ofInt 1).toInt then 1 else 0) = 0) rfl (fun _ => rfl) (fun h30 => ?_) (fun h30 => ?_)
      · have hw9 : 0 ≤ wh.toInt ∧ wh.toInt ≤ (v_pop sI - Int32.ofInt 1).toInt := by
          by_cases hc : 0 ≤ wh.toInt ∧ wh.toInt ≤ (v_pop sI - Int32.ofInt 1).toInt
          · exact hc
          · rw [if_neg hc] at h30
            exact absurd rfl h30
        have hu3 := hu.2.2.1
        have hu4 := hu.2.2.2
        rw [e3c] at hu3
        rw [e8c] at hu4
        have es : (v_pop sI - Int32.ofInt 1).toInt = (v_pop sI).toInt - 1 := by
          have e1 : v_pop sI - Int32.ofInt 1 = Int32.ofInt ((v_pop sI).toInt - 1) := by rw [Int32.ofInt_sub, q_of]
          rw [e1, q_ofr (by omega) (by omega)]
        exact tail hu.1 hu.2.1 hu3 hu4 (Or.inr ⟨hw9.1, by omega⟩)
      · refine w_st rfl (fun _ => rfl) ?_
        show w_T L xs (2 + 9 + 1) m_X12_round 34 [(0, .ref 100), (1, .int sI), (2, .int wh)] [.int (Int32.ofInt (-1))] S R Q
        refine w_ret rfl (by rfl) ?_
        exact hq _ _ _ hJ0
