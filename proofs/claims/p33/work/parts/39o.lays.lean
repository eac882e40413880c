/-! round: the table is laid, the way along it -/
noncomputable abbrev m_X12_laysRing : g_M := (g_cn 12, yX12_laysRing, cX12_laysRing, 6, none, g_look2 ttX12_laysRing)
set_option maxRecDepth 20000 in
theorem mt_X12_laysRing : g_mt 289 = some m_X12_laysRing := rfl
noncomputable abbrev m_X12_doQuarrel : g_M := (g_cn 12, yX12_doQuarrel, cX12_doQuarrel, 3, (some .boolean), g_look2 ttX12_doQuarrel)
set_option maxRecDepth 20000 in
theorem mt_X12_doQuarrel : g_mt 207 = some m_X12_doQuarrel := rfl
def r_J (S0 : v_Sf) (R0 : v_Rf) (S : v_Sf) (R : v_Rf) : Prop := v_Tb v_ty S R ∧ v_Op S ∧ v_Fr [(99, 27, 40), (114, 0, 240), (115, 0, 240), (152, 0, 12), (171, 0, 2048), (172, 0, 64)] S0 R0 S R
theorem r_J171 {S0 S : v_Sf} {R0 R : v_Rf} (h : r_J S0 R0 S R) {j : Nat} {v : Int32} (hj : j ≤ 2048) : r_J S0 R0 (v_ur S 171 (upd (S 171) j v)) R := ⟨w_TbR h.1 (a := 171) rfl (q_rng _).1 (q_rng _).2, w_Op_ur rfl h.2.1, v_Fr_tr h.2.2 (v_Fr_ur _ _ _ (v_md_mono (lo := 0) (hi := 2048) (by decide +kernel) (Nat.zero_le _) hj))⟩
theorem r_J172 {S0 S : v_Sf} {R0 R : v_Rf} (h : r_J S0 R0 S R) {j : Nat} {v : Int32} (hj : j ≤ 64) (h1 : 0 ≤ v.toInt) (h2 : v.toInt ≤ 1) : r_J S0 R0 (v_ur S 172 (upd (S 172) j v)) R := ⟨w_TbR h.1 (a := 172) rfl h1 h2, w_Op_ur rfl h.2.1, v_Fr_tr h.2.2 (v_Fr_ur _ _ _ (v_md_mono (lo := 0) (hi := 64) (by decide +kernel) (Nat.zero_le _) hj))⟩
theorem r_Jq {S0 S S1 : v_Sf} {R0 R R1 : v_Rf} (h : r_J S0 R0 S R) (h1 : v_Tb v_ty S1 R1) (h2 : v_Op S1) (h3 : v_Fr [(99, 27, 40), (114, 0, 240), (115, 0, 240)] S R S1 R1) : r_J S0 R0 S1 R1 := ⟨h1, h2, v_Fr_tr h.2.2 (v_Fr_sub (by decide +kernel) h3)⟩
def r_ok (S : v_Sf) (m b l : Nat) : Prop := ¬ S 171 (8 * b + l) = 0 → ∃ k, 1 ≤ k ∧ k < m ∧ b / 2 ^ k % 2 = 0 ∧ ¬ S 172 (8 * l + k) = 0 ∧ ¬ S 171 (8 * (b + 2 ^ k) + k) = 0
theorem r_up {S : v_Sf} {m b l b0 l0 : Nat} {v : Int32} (hm : m ≤ 8) (hl : l < m) (hl0 : l0 < m) (hb : b0 < b ∨ (b = b0 ∧ ¬ l = l0)) (h : r_ok S m b l) : r_ok (v_ur S 171 (upd (S 171) (8 * b0 + l0) v)) m b l := by
  intro hn
  rw [w_urn (by omega)] at hn
  obtain ⟨k, k1, k2, k3, k4, k5⟩ := h hn
  have hp : 0 < 2 ^ k := Nat.pos_of_ne_zero (by simp)
  exact ⟨k, k1, k2, k3, by rw [w_urn (by omega)]; exact k4, by rw [w_urn (by omega)]; exact k5⟩
def r_P (S : v_Sf) (m b : Nat) : Prop := ∀ b' l, b < b' → b' < 2 ^ m - 1 → l < m → r_ok S m b' l
theorem r_pw : ∀ m : Fin 9, Int32.ofInt 1 <<< (Int32.ofInt ((m : Nat) : Int) &&& 31) - Int32.ofInt 1 = Int32.ofInt ((2 ^ (m : Nat) - 1 : Nat) : Int) := by decide
theorem r_p8 : ∀ m : Fin 9, 2 ^ (m : Nat) ≤ 256 ∧ 1 ≤ 2 ^ (m : Nat) := by decide
section RL
variable {L : Nat} {xs : Nat → Int32} {d : Nat} {Q : Option Value → v_Sf → v_Rf → Prop} {S0 : v_Sf} {R0 : v_Rf} {m : Nat}
set_option maxHeartbeats 2000000 in
theorem r_pI (hD : v_Met L xs v_ty v_Op 207 rw_192) (hm : m ≤ 8) (i : Nat) (hi : i < m) (K : ∀ S R, r_J S0 R0 S R → w_T L xs (d + 9) m_X12_laysRing 60 [(3, .int (Int32.ofInt (m : Int))), (2, .int (Int32.ofInt (i : Int))), (0, .ref 100), (1, .int (Int32.ofInt (m : Int)))] [] S R Q) : ∀ (c j : Nat) (S : v_Sf) (R : v_Rf), j + c = m → r_J S0 R0 S R → w_T L xs (d + 9) m_X12_laysRing 9 [(3, .int (Int32.ofInt (j : Int))), (2, .int (Int32.ofInt (i : Int))), (0, .ref 100), (1, .int (Int32.ofInt (m : Int)))] [] S R Q := by
  have ei := w_nat (k := i) (by omega)
  have em := w_nat (k := m) (by omega)
  intro c
  induction c with
  | zero =>
    intro j S R hj hJ
    obtain rfl : j = m := by omega
    refine w_st rfl (fun _ => rfl) ?_
    refine w_st rfl (fun _ => rfl) ?_
    show w_T L xs (d + 9) m_X12_laysRing 11 [(3, .int (Int32.ofInt (j : Int))), (2, .int (Int32.ofInt (i : Int))), (0, .ref 100), (1, .int (Int32.ofInt (j : Int)))] [.int (Int32.ofInt (j : Int)), .int (Int32.ofInt (j : Int))] S R Q
    refine w_br (P := (Int32.ofInt (j : Int)) ≤ (Int32.ofInt (j : Int))) rfl (fun _ => rfl) (fun h11 => ?_) (fun h11 => ?_)
    · exact K S R hJ
    · exfalso; rw [q_le32] at h11; omega
  | succ c ih =>
    intro j S R hj hJ
    have ej := w_nat (k := j) (by omega)
    have ein : (Int32.ofInt (i : Int)).toInt.toNat = i := by rw [ei]; omega
    have ejn : (Int32.ofInt (j : Int)).toInt.toNat = j := by rw [ej]; omega
    have tS : v_TbC S R 152 _ := hJ.1 152 _ rfl
    have si : 0 ≤ (S 152 i).toInt ∧ (S 152 i).toInt ≤ 11 := tS i (by omega)
    have sj : 0 ≤ (S 152 j).toInt ∧ (S 152 j).toInt ≤ 11 := tS j (by omega)
    have e8 := v_m8 (b := i) (k := j) (by omega) (by omega)
    have w8 := w_nat (k := 8 * i + j) (by omega)
    have w8n : (Int32.ofInt ((8 * i + j : Nat) : Int)).toInt.toNat = 8 * i + j := by rw [w8]; omega
    refine w_st rfl (fun _ => rfl) ?_
    refine w_st rfl (fun _ => rfl) ?_
    show w_T L xs (d + 9) m_X12_laysRing 11 [(3, .int (Int32.ofInt (j : Int))), (2, .int (Int32.ofInt (i : Int))), (0, .ref 100), (1, .int (Int32.ofInt (m : Int)))] [.int (Int32.ofInt (m : Int)), .int (Int32.ofInt (j : Int))] S R Q
    refine w_br (P := (Int32.ofInt (m : Int)) ≤ (Int32.ofInt (j : Int))) rfl (fun _ => rfl) (fun h11 => ?_) (fun h11 => ?_)
    · exfalso; rw [q_le32, em, ej] at h11; omega
    · refine w_st rfl (fun _ => rfl) ?_
      show w_T L xs (d + 9) m_X12_laysRing 15 [(3, .int (Int32.ofInt (j : Int))), (2, .int (Int32.ofInt (i : Int))), (0, .ref 100), (1, .int (Int32.ofInt (m : Int)))] [.ref 100] S R Q
      refine w_getr rfl v_tyM rfl ?_
      refine w_st rfl (fun _ => rfl) ?_
      refine w_st rfl (fun _ => rfl) ?_
      refine w_st rfl (fun _ => rfl) ?_
      refine w_st rfl (fun _ => rfl) ?_
      refine w_st rfl (fun _ => rfl) ?_
      refine w_st rfl (fun _ => rfl) ?_
      refine w_st rfl (fun _ => rfl) ?_
      show w_T L xs (d + 9) m_X12_laysRing 26 [(3, .int (Int32.ofInt (j : Int))), (2, .int (Int32.ofInt (i : Int))), (0, .ref 100), (1, .int (Int32.ofInt (m : Int)))] [.int (Int32.ofInt (j : Int)), .int (Int32.ofInt (i : Int)), .int (((Int32.ofInt 8) * (Int32.ofInt (i : Int))) + (Int32.ofInt (j : Int))), .ref 173] S R Q
      refine w_br (P := (Int32.ofInt (i : Int)) = (Int32.ofInt (j : Int))) rfl (fun _ => rfl) (fun h26 => ?_) (fun h26 => ?_)
      · refine w_st rfl (fun _ => rfl) ?_
        show w_T L xs (d + 9) m_X12_laysRing 53 [(3, .int (Int32.ofInt (j : Int))), (2, .int (Int32.ofInt (i : Int))), (0, .ref 100), (1, .int (Int32.ofInt (m : Int)))] [.int (Int32.ofInt 0), .int (((Int32.ofInt 8) * (Int32.ofInt (i : Int))) + (Int32.ofInt (j : Int))), .ref 173] S R Q
        refine w_bast rfl rfl (Or.inr ⟨rfl, rfl⟩) (by rw [e8, w8]; omega) (by rw [e8, w8]; omega) ?_
        rw [e8, w8n]
        refine w_st rfl (fun _ => rfl) ?_
        refine w_st rfl (fun _ => rfl) ?_
        show w_T L xs (d + 9) m_X12_laysRing 9 [(3, .int ((Int32.ofInt (j : Int)) + Int32.ofInt 1)), (2, .int (Int32.ofInt (i : Int))), (0, .ref 100), (1, .int (Int32.ofInt (m : Int)))] [] (v_ur S 172 (upd (S 172) (8 * i + j) (Int32.ofInt 0))) R Q
        rw [w_inc]
        exact ih (j + 1) _ _ (by omega) (r_J172 hJ (by omega) (by decide) (by decide))
      · refine w_st rfl (fun _ => rfl) ?_
        refine w_st rfl (fun _ => rfl) ?_
        show w_T L xs (d + 9) m_X12_laysRing 31 [(3, .int (Int32.ofInt (j : Int))), (2, .int (Int32.ofInt (i : Int))), (0, .ref 100), (1, .int (Int32.ofInt (m : Int)))] [.ref 100, .ref 100, .int (((Int32.ofInt 8) * (Int32.ofInt (i : Int))) + (Int32.ofInt (j : Int))), .ref 173] S R Q
        refine w_getr rfl v_tyM rfl ?_
        refine w_st rfl (fun _ => rfl) ?_
        show w_T L xs (d + 9) m_X12_laysRing 35 [(3, .int (Int32.ofInt (j : Int))), (2, .int (Int32.ofInt (i : Int))), (0, .ref 100), (1, .int (Int32.ofInt (m : Int)))] [.int (Int32.ofInt (i : Int)), .ref 153, .ref 100, .int (((Int32.ofInt 8) * (Int32.ofInt (i : Int))) + (Int32.ofInt (j : Int))), .ref 173] S R Q
        refine w_iald rfl rfl (by rw [ei]; omega) (by rw [ei]; omega) ?_
        rw [ein]
        refine w_st rfl (fun _ => rfl) ?_
        show w_T L xs (d + 9) m_X12_laysRing 37 [(3, .int (Int32.ofInt (j : Int))), (2, .int (Int32.ofInt (i : Int))), (0, .ref 100), (1, .int (Int32.ofInt (m : Int)))] [.ref 100, .int (S 152 i), .ref 100, .int (((Int32.ofInt 8) * (Int32.ofInt (i : Int))) + (Int32.ofInt (j : Int))), .ref 173] S R Q
        refine w_getr rfl v_tyM rfl ?_
        refine w_st rfl (fun _ => rfl) ?_
        show w_T L xs (d + 9) m_X12_laysRing 41 [(3, .int (Int32.ofInt (j : Int))), (2, .int (Int32.ofInt (i : Int))), (0, .ref 100), (1, .int (Int32.ofInt (m : Int)))] [.int (Int32.ofInt (j : Int)), .ref 153, .int (S 152 i), .ref 100, .int (((Int32.ofInt 8) * (Int32.ofInt (i : Int))) + (Int32.ofInt (j : Int))), .ref 173] S R Q
        refine w_iald rfl rfl (by rw [ej]; omega) (by rw [ej]; omega) ?_
        rw [ejn]
        show w_T L xs (d + 9) m_X12_laysRing 42 [(3, .int (Int32.ofInt (j : Int))), (2, .int (Int32.ofInt (i : Int))), (0, .ref 100), (1, .int (Int32.ofInt (m : Int)))] [.int (S 152 j), .int (S 152 i), .ref 100, .int (((Int32.ofInt 8) * (Int32.ofInt (i : Int))) + (Int32.ofInt (j : Int))), .ref 173] S R Q
        refine w_cv rfl (by decide) mt_X12_doQuarrel v_tyM rfl rfl rfl (Nat.le_of_ble_eq_true rfl) (Nat.le_of_ble_eq_true rfl) (Nat.le_of_ble_eq_true rfl) ?_
        show w_T L xs _ m_X12_doQuarrel 0 (lv_args 0 [.ref 100, .int (S 152 i), .int (S 152 j)]) [] S R _
        refine w_met hD (Nat.le_of_ble_eq_true rfl |> fun h => Nat.le_trans h (Nat.le_add_left 8 d)) mt_X12_doQuarrel ⟨rfl, ⟨_, rfl, si.1, si.2⟩, ⟨_, rfl, sj.1, sj.2⟩, trivial⟩ hJ.1 hJ.2.1 (fun r S1 R1 hT1 hO1 hr hF1 => ?_)
        obtain ⟨u, hr, -, -⟩ := hr
        subst hr
        have hJ1 := r_Jq hJ hT1 hO1 hF1
        show w_T L xs (d + 9) m_X12_laysRing 45 [(3, .int (Int32.ofInt (j : Int))), (2, .int (Int32.ofInt (i : Int))), (0, .ref 100), (1, .int (Int32.ofInt (m : Int)))] [.int u, .int (((Int32.ofInt 8) * (Int32.ofInt (i : Int))) + (Int32.ofInt (j : Int))), .ref 173] S1 R1 Q
        refine w_br (P := ¬ u = 0) rfl (fun _ => rfl) (fun h45 => ?_) (fun h45 => ?_)
        · refine w_st rfl (fun _ => rfl) ?_
          show w_T L xs (d + 9) m_X12_laysRing 53 [(3, .int (Int32.ofInt (j : Int))), (2, .int (Int32.ofInt (i : Int))), (0, .ref 100), (1, .int (Int32.ofInt (m : Int)))] [.int (Int32.ofInt 0), .int (((Int32.ofInt 8) * (Int32.ofInt (i : Int))) + (Int32.ofInt (j : Int))), .ref 173] S1 R1 Q
          refine w_bast rfl rfl (Or.inr ⟨rfl, rfl⟩) (by rw [e8, w8]; omega) (by rw [e8, w8]; omega) ?_
          rw [e8, w8n]
          refine w_st rfl (fun _ => rfl) ?_
          refine w_st rfl (fun _ => rfl) ?_
          show w_T L xs (d + 9) m_X12_laysRing 9 [(3, .int ((Int32.ofInt (j : Int)) + Int32.ofInt 1)), (2, .int (Int32.ofInt (i : Int))), (0, .ref 100), (1, .int (Int32.ofInt (m : Int)))] [] (v_ur S1 172 (upd (S1 172) (8 * i + j) (Int32.ofInt 0))) R1 Q
          rw [w_inc]
          exact ih (j + 1) _ _ (by omega) (r_J172 hJ1 (by omega) (by decide) (by decide))
        · refine w_st rfl (fun _ => rfl) ?_
          refine w_st rfl (fun _ => rfl) ?_
          show w_T L xs (d + 9) m_X12_laysRing 53 [(3, .int (Int32.ofInt (j : Int))), (2, .int (Int32.ofInt (i : Int))), (0, .ref 100), (1, .int (Int32.ofInt (m : Int)))] [.int (Int32.ofInt 1), .int (((Int32.ofInt 8) * (Int32.ofInt (i : Int))) + (Int32.ofInt (j : Int))), .ref 173] S1 R1 Q
          refine w_bast rfl rfl (Or.inr ⟨rfl, rfl⟩) (by rw [e8, w8]; omega) (by rw [e8, w8]; omega) ?_
          rw [e8, w8n]
          refine w_st rfl (fun _ => rfl) ?_
          refine w_st rfl (fun _ => rfl) ?_
          show w_T L xs (d + 9) m_X12_laysRing 9 [(3, .int ((Int32.ofInt (j : Int)) + Int32.ofInt 1)), (2, .int (Int32.ofInt (i : Int))), (0, .ref 100), (1, .int (Int32.ofInt (m : Int)))] [] (v_ur S1 172 (upd (S1 172) (8 * i + j) (Int32.ofInt 1))) R1 Q
          rw [w_inc]
          exact ih (j + 1) _ _ (by omega) (r_J172 hJ1 (by omega) (by decide) (by decide))
theorem r_pO (hD : v_Met L xs v_ty v_Op 207 rw_192) (hm : m ≤ 8) (K : ∀ x3 S R, r_J S0 R0 S R → w_T L xs (d + 9) m_X12_laysRing 66 [(2, .int (Int32.ofInt (m : Int))), (3, .int x3), (0, .ref 100), (1, .int (Int32.ofInt (m : Int)))] [] S R Q) : ∀ (c i : Nat) (x3 : Int32) (S : v_Sf) (R : v_Rf), i + c = m → r_J S0 R0 S R → w_T L xs (d + 9) m_X12_laysRing 2 [(2, .int (Int32.ofInt (i : Int))), (3, .int x3), (0, .ref 100), (1, .int (Int32.ofInt (m : Int)))] [] S R Q := by
  have em := w_nat (k := m) (by omega)
  intro c
  induction c with
  | zero =>
    intro i x3 S R hi hJ
    obtain rfl : i = m := by omega
    refine w_st rfl (fun _ => rfl) ?_
    refine w_st rfl (fun _ => rfl) ?_
    show w_T L xs (d + 9) m_X12_laysRing 4 [(2, .int (Int32.ofInt (i : Int))), (3, .int x3), (0, .ref 100), (1, .int (Int32.ofInt (i : Int)))] [.int (Int32.ofInt (i : Int)), .int (Int32.ofInt (i : Int))] S R Q
    refine w_br (P := (Int32.ofInt (i : Int)) ≤ (Int32.ofInt (i : Int))) rfl (fun _ => rfl) (fun h4 => ?_) (fun h4 => ?_)
    · exact K _ S R hJ
    · exfalso; rw [q_le32] at h4; omega
  | succ c ih =>
    intro i x3 S R hi hJ
    have ei := w_nat (k := i) (by omega)
    refine w_st rfl (fun _ => rfl) ?_
    refine w_st rfl (fun _ => rfl) ?_
    show w_T L xs (d + 9) m_X12_laysRing 4 [(2, .int (Int32.ofInt (i : Int))), (3, .int x3), (0, .ref 100), (1, .int (Int32.ofInt (m : Int)))] [.int (Int32.ofInt (m : Int)), .int (Int32.ofInt (i : Int))] S R Q
    refine w_br (P := (Int32.ofInt (m : Int)) ≤ (Int32.ofInt (i : Int))) rfl (fun _ => rfl) (fun h4 => ?_) (fun h4 => ?_)
    · exfalso; rw [q_le32, em, ei] at h4; omega
    · refine w_st rfl (fun _ => rfl) ?_
      refine w_st rfl (fun _ => rfl) ?_
      show w_T L xs (d + 9) m_X12_laysRing 9 [(3, .int (Int32.ofInt 0)), (2, .int (Int32.ofInt (i : Int))), (0, .ref 100), (1, .int (Int32.ofInt (m : Int)))] [] S R Q
      refine r_pI hD hm i (by omega) (fun S1 R1 hJ1 => ?_) m 0 S R (by omega) hJ
      refine w_st rfl (fun _ => rfl) ?_
      refine w_st rfl (fun _ => rfl) ?_
      show w_T L xs (d + 9) m_X12_laysRing 2 [(2, .int ((Int32.ofInt (i : Int)) + Int32.ofInt 1)), (3, .int (Int32.ofInt (m : Int))), (0, .ref 100), (1, .int (Int32.ofInt (m : Int)))] [] S1 R1 Q
      rw [w_inc]
      exact ih (i + 1) _ _ _ (by omega) hJ1
set_option maxHeartbeats 2000000 in
theorem r_k (S : v_Sf) (R : v_Rf) (hm : m ≤ 8) (b l : Nat) (b1 : b < 2 ^ m) (hl : l < m) (w0 : Int32) (K : ∀ w : Int32, (¬ w = 0 → ¬ w0 = 0 ∨ (∃ k', 1 ≤ k' ∧ k' < m ∧ b / 2 ^ k' % 2 = 0 ∧ ¬ S 172 (8 * l + k') = 0 ∧ ¬ S 171 (8 * (b + 2 ^ k') + k') = 0)) → w_T L xs (d + 1) m_X12_laysRing 176 [(5, .int (Int32.ofInt (m : Int))), (4, .int w), (3, .int (Int32.ofInt (l : Int))), (2, .int (Int32.ofInt (b : Int))), (0, .ref 100), (1, .int (Int32.ofInt (m : Int)))] [] S R Q) : ∀ (c k : Nat) (w : Int32), k + c = m → 1 ≤ k → (¬ w = 0 → ¬ w0 = 0 ∨ (∃ k', 1 ≤ k' ∧ k' < m ∧ b / 2 ^ k' % 2 = 0 ∧ ¬ S 172 (8 * l + k') = 0 ∧ ¬ S 171 (8 * (b + 2 ^ k') + k') = 0)) → w_T L xs (d + 1) m_X12_laysRing 118 [(5, .int (Int32.ofInt (k : Int))), (4, .int w), (3, .int (Int32.ofInt (l : Int))), (2, .int (Int32.ofInt (b : Int))), (0, .ref 100), (1, .int (Int32.ofInt (m : Int)))] [] S R Q := by
  have em := w_nat (k := m) (by omega)
  have p8 := r_p8 ⟨m, by omega⟩
  dsimp only at p8
  have eb := w_nat (k := b) (by omega)
  have ebn : (Int32.ofInt (b : Int)).toInt.toNat = b := by rw [eb]; omega
  intro c
  induction c with
  | zero =>
    intro k w hk h1 hw
    obtain rfl : k = m := by omega
    refine w_st rfl (fun _ => rfl) ?_
    refine w_st rfl (fun _ => rfl) ?_
    show w_T L xs (d + 1) m_X12_laysRing 121 [(5, .int (Int32.ofInt (k : Int))), (4, .int w), (3, .int (Int32.ofInt (l : Int))), (2, .int (Int32.ofInt (b : Int))), (0, .ref 100), (1, .int (Int32.ofInt (k : Int)))] [.int (Int32.ofInt (k : Int)), .int (Int32.ofInt (k : Int))] S R Q
    refine w_br (P := (Int32.ofInt (k : Int)) ≤ (Int32.ofInt (k : Int))) rfl (fun _ => rfl) (fun h121 => ?_) (fun h121 => ?_)
    · exact K w hw
    · exfalso; rw [q_le32] at h121; omega
  | succ c ih =>
    intro k w hk h1 hw
    have ek := w_nat (k := k) (by omega)
    have ekn : (Int32.ofInt (k : Int)).toInt.toNat = k := by rw [ek]; omega
    have hbit := h_bit (Int32.ofInt (b : Int)) (Int32.ofInt (k : Int)) (by omega) (by omega) (by omega)
    rw [ekn, ebn] at hbit
    have e8 := v_m8 (b := l) (k := k) (by omega) (by omega)
    have w8 := w_nat (k := 8 * l + k) (by omega)
    have w8n : (Int32.ofInt ((8 * l + k : Nat) : Int)).toInt.toNat = 8 * l + k := by rw [w8]; omega
    refine w_st rfl (fun _ => rfl) ?_
    refine w_st rfl (fun _ => rfl) ?_
    show w_T L xs (d + 1) m_X12_laysRing 121 [(5, .int (Int32.ofInt (k : Int))), (4, .int w), (3, .int (Int32.ofInt (l : Int))), (2, .int (Int32.ofInt (b : Int))), (0, .ref 100), (1, .int (Int32.ofInt (m : Int)))] [.int (Int32.ofInt (m : Int)), .int (Int32.ofInt (k : Int))] S R Q
    refine w_br (P := (Int32.ofInt (m : Int)) ≤ (Int32.ofInt (k : Int))) rfl (fun _ => rfl) (fun h121 => ?_) (fun h121 => ?_)
    · exfalso; rw [q_le32, em, ek] at h121; omega
    · refine w_st rfl (fun _ => rfl) ?_
      refine w_st rfl (fun _ => rfl) ?_
      show w_T L xs (d + 1) m_X12_laysRing 127 [(5, .int (Int32.ofInt (k : Int))), (4, .int w), (3, .int (Int32.ofInt (l : Int))), (2, .int (Int32.ofInt (b : Int))), (0, .ref 100), (1, .int (Int32.ofInt (m : Int)))] [.int (Int32.ofInt (k : Int)), .int (Int32.ofInt (b : Int))] S R Q
      refine w_cs rfl (by decide) mt_X12_has (fun _ => rfl) (Nat.le_of_ble_eq_true rfl) (Nat.le_of_ble_eq_true rfl) ?_
      show w_T L xs _ m_X12_has 0 (lv_args 0 [.int (Int32.ofInt (b : Int)), .int (Int32.ofInt (k : Int))]) [] S R _
      refine h_has _ _ ?_
      rw [hbit]
      show w_T L xs (d + 1) m_X12_laysRing 130 [(5, .int (Int32.ofInt (k : Int))), (4, .int w), (3, .int (Int32.ofInt (l : Int))), (2, .int (Int32.ofInt (b : Int))), (0, .ref 100), (1, .int (Int32.ofInt (m : Int)))] [.int (Int32.ofInt ((b / 2 ^ k % 2 : Nat) : Int))] S R Q
      refine w_br (P := ¬ (Int32.ofInt ((b / 2 ^ k % 2 : Nat) : Int)) = 0) rfl (fun _ => rfl) (fun h130 => ?_) (fun h130 => ?_)
      · refine w_st rfl (fun _ => rfl) ?_
        refine w_st rfl (fun _ => rfl) ?_
        show w_T L xs (d + 1) m_X12_laysRing 118 [(5, .int ((Int32.ofInt (k : Int)) + Int32.ofInt 1)), (4, .int w), (3, .int (Int32.ofInt (l : Int))), (2, .int (Int32.ofInt (b : Int))), (0, .ref 100), (1, .int (Int32.ofInt (m : Int)))] [] S R Q
        rw [w_inc]
        exact ih (k + 1) _ (by omega) (by omega) hw
      · have hz : b / 2 ^ k % 2 = 0 := by
          have h16 := Decidable.of_not_not h130
          have := congrArg Int32.toInt h16
          rw [w_nat (by omega)] at this
          have z0 : (0 : Int32).toInt = 0 := rfl
          omega
        obtain ⟨t1, t2, t3⟩ := v_t1_at (by omega) (by omega) hz hm b1 (show k < m by omega)
        have e9 := v_m8 (b := b + 2 ^ k) (k := k) (by omega) (by omega)
        have w9 := w_nat (k := 8 * (b + 2 ^ k) + k) (by omega)
        have w9n : (Int32.ofInt ((8 * (b + 2 ^ k) + k : Nat) : Int)).toInt.toNat = 8 * (b + 2 ^ k) + k := by rw [w9]; omega
        refine w_st rfl (fun _ => rfl) ?_
        show w_T L xs (d + 1) m_X12_laysRing 134 [(5, .int (Int32.ofInt (k : Int))), (4, .int w), (3, .int (Int32.ofInt (l : Int))), (2, .int (Int32.ofInt (b : Int))), (0, .ref 100), (1, .int (Int32.ofInt (m : Int)))] [.ref 100] S R Q
        refine w_getr rfl v_tyM rfl ?_
        refine w_st rfl (fun _ => rfl) ?_
        refine w_st rfl (fun _ => rfl) ?_
        refine w_st rfl (fun _ => rfl) ?_
        refine w_st rfl (fun _ => rfl) ?_
        refine w_st rfl (fun _ => rfl) ?_
        show w_T L xs (d + 1) m_X12_laysRing 144 [(5, .int (Int32.ofInt (k : Int))), (4, .int w), (3, .int (Int32.ofInt (l : Int))), (2, .int (Int32.ofInt (b : Int))), (0, .ref 100), (1, .int (Int32.ofInt (m : Int)))] [.int (((Int32.ofInt 8) * (Int32.ofInt (l : Int))) + (Int32.ofInt (k : Int))), .ref 173] S R Q
        refine w_bald rfl rfl (by decide) (by rw [e8, w8]; omega) (by rw [e8, w8]; omega) ?_
        rw [e8, w8n]
        show w_T L xs (d + 1) m_X12_laysRing 145 [(5, .int (Int32.ofInt (k : Int))), (4, .int w), (3, .int (Int32.ofInt (l : Int))), (2, .int (Int32.ofInt (b : Int))), (0, .ref 100), (1, .int (Int32.ofInt (m : Int)))] [.int (S 172 (8 * l + k))] S R Q
        refine w_br (P := (S 172 (8 * l + k)) = 0) rfl (fun _ => rfl) (fun h145 => ?_) (fun h145 => ?_)
        · refine w_st rfl (fun _ => rfl) ?_
          refine w_st rfl (fun _ => rfl) ?_
          show w_T L xs (d + 1) m_X12_laysRing 118 [(5, .int ((Int32.ofInt (k : Int)) + Int32.ofInt 1)), (4, .int w), (3, .int (Int32.ofInt (l : Int))), (2, .int (Int32.ofInt (b : Int))), (0, .ref 100), (1, .int (Int32.ofInt (m : Int)))] [] S R Q
          rw [w_inc]
          exact ih (k + 1) _ (by omega) (by omega) hw
        · refine w_st rfl (fun _ => rfl) ?_
          refine w_st rfl (fun _ => rfl) ?_
          show w_T L xs (d + 1) m_X12_laysRing 151 [(5, .int (Int32.ofInt (k : Int))), (4, .int w), (3, .int (Int32.ofInt (l : Int))), (2, .int (Int32.ofInt (b : Int))), (0, .ref 100), (1, .int (Int32.ofInt (m : Int)))] [.ref 100, .int w] S R Q
          refine w_getr rfl v_tyM rfl ?_
          refine w_st rfl (fun _ => rfl) ?_
          refine w_st rfl (fun _ => rfl) ?_
          refine w_st rfl (fun _ => rfl) ?_
          refine w_st rfl (fun _ => rfl) ?_
          refine w_st rfl (fun _ => rfl) ?_
          refine w_st rfl (fun _ => rfl) ?_
          refine w_st rfl (fun _ => rfl) ?_
          refine w_st rfl (fun _ => rfl) ?_
          refine w_st rfl (fun _ => rfl) ?_
          show w_T L xs (d + 1) m_X12_laysRing 166 [(5, .int (Int32.ofInt (k : Int))), (4, .int w), (3, .int (Int32.ofInt (l : Int))), (2, .int (Int32.ofInt (b : Int))), (0, .ref 100), (1, .int (Int32.ofInt (m : Int)))] [.int (((Int32.ofInt 8) * ((Int32.ofInt (b : Int)) ||| ((Int32.ofInt 1) <<< ((Int32.ofInt (k : Int)) &&& 31)))) + (Int32.ofInt (k : Int))), .ref 172, .int w] S R Q
          refine w_iald rfl rfl (by rw [t1, e9, w9]; omega) (by rw [t1, e9, w9]; omega) ?_
          rw [t1, e9, w9n]
          refine w_st rfl (fun _ => rfl) ?_
          refine w_st rfl (fun _ => rfl) ?_
          refine w_st rfl (fun _ => rfl) ?_
          refine w_st rfl (fun _ => rfl) ?_
          show w_T L xs (d + 1) m_X12_laysRing 118 [(5, .int ((Int32.ofInt (k : Int)) + Int32.ofInt 1)), (4, .int (w + (S 171 (8 * (b + 2 ^ k) + k)))), (3, .int (Int32.ofInt (l : Int))), (2, .int (Int32.ofInt (b : Int))), (0, .ref 100), (1, .int (Int32.ofInt (m : Int)))] [] S R Q
          rw [w_inc]
          refine ih (k + 1) _ (by omega) (by omega) (fun hne => ?_)
          by_cases hx : S 171 (8 * (b + 2 ^ k) + k) = 0
          · refine hw (fun e => hne ?_)
            rw [e, hx]
            rfl
          · exact Or.inr ⟨k, h1, by omega, hz, h145, hx⟩
theorem r_row (S : v_Sf) (R : v_Rf) (hJ : r_J S0 R0 S R) (hm : m ≤ 8) (hm1 : 1 ≤ m) (b l : Nat) (b1 : b < 2 ^ m) (hl : l < m) (w0 : Int32) (hw0 : b < 2 ^ m - 1 → w0 = 0) (hP : r_P S m b) (hR : ∀ l', l' < l → b < 2 ^ m - 1 → r_ok S m b l') (K : ∀ (x5 x4 : Int32) (S : v_Sf), r_J S0 R0 S R → r_P S m b → (∀ l', l' < l + 1 → b < 2 ^ m - 1 → r_ok S m b l') → w_T L xs (d + 1) m_X12_laysRing 78 [(3, .int ((Int32.ofInt ((l + 1 : Nat) : Int)))), (2, .int (Int32.ofInt (b : Int))), (5, .int x5), (4, .int x4), (0, .ref 100), (1, .int (Int32.ofInt (m : Int)))] [] S R Q) : w_T L xs (d + 1) m_X12_laysRing 118 [(5, .int ((Int32.ofInt 1))), (4, .int w0), (3, .int (Int32.ofInt (l : Int))), (2, .int (Int32.ofInt (b : Int))), (0, .ref 100), (1, .int (Int32.ofInt (m : Int)))] [] S R Q := by
  have p8 := r_p8 ⟨m, by omega⟩
  dsimp only at p8
  have e8 := v_m8 (b := b) (k := l) (by omega) (by omega)
  have w8 := w_nat (k := 8 * b + l) (by omega)
  have w8n : (Int32.ofInt ((8 * b + l : Nat) : Int)).toInt.toNat = 8 * b + l := by rw [w8]; omega
  refine r_k S R hm b l b1 hl w0 (fun w hw => ?_) (m - 1) 1 w0 (by omega) (by omega) (fun h => Or.inl h)
  refine w_st rfl (fun _ => rfl) ?_
  show w_T L xs (d + 1) m_X12_laysRing 177 [(5, .int (Int32.ofInt (m : Int))), (4, .int w), (3, .int (Int32.ofInt (l : Int))), (2, .int (Int32.ofInt (b : Int))), (0, .ref 100), (1, .int (Int32.ofInt (m : Int)))] [.ref 100] S R Q
  refine w_getr rfl v_tyM rfl ?_
  refine w_st rfl (fun _ => rfl) ?_
  refine w_st rfl (fun _ => rfl) ?_
  refine w_st rfl (fun _ => rfl) ?_
  refine w_st rfl (fun _ => rfl) ?_
  refine w_st rfl (fun _ => rfl) ?_
  refine w_st rfl (fun _ => rfl) ?_
  show w_T L xs (d + 1) m_X12_laysRing 188 [(5, .int (Int32.ofInt (m : Int))), (4, .int w), (3, .int (Int32.ofInt (l : Int))), (2, .int (Int32.ofInt (b : Int))), (0, .ref 100), (1, .int (Int32.ofInt (m : Int)))] [.int w, .int (((Int32.ofInt 8) * (Int32.ofInt (b : Int))) + (Int32.ofInt (l : Int))), .ref 172] S R Q
  refine w_iast rfl rfl (by rw [e8, w8]; omega) (by rw [e8, w8]; omega) ?_
  rw [e8, w8n]
  refine w_st rfl (fun _ => rfl) ?_
  refine w_st rfl (fun _ => rfl) ?_
  show w_T L xs (d + 1) m_X12_laysRing 78 [(3, .int ((Int32.ofInt (l : Int)) + Int32.ofInt 1)), (5, .int (Int32.ofInt (m : Int))), (4, .int w), (2, .int (Int32.ofInt (b : Int))), (0, .ref 100), (1, .int (Int32.ofInt (m : Int)))] [] (v_ur S 171 (upd (S 171) (8 * b + l) w)) R Q
  refine w_lc (b := [(3, .int ((Int32.ofInt (l : Int)) + Int32.ofInt 1)), (2, .int (Int32.ofInt (b : Int))), (5, .int (Int32.ofInt (m : Int))), (4, .int w), (0, .ref 100), (1, .int (Int32.ofInt (m : Int)))]) (show ([3, 5, 4, 2, 0, 1] : List Nat).Nodup by decide) (show ([3, 2, 5, 4, 0, 1] : List Nat).Nodup by decide) (fun i => match i with | 0 => rfl | 1 => rfl | 2 => rfl | 3 => rfl | 4 => rfl | 5 => rfl | _ + 6 => rfl) ?_
  rw [w_inc]
  refine K _ _ _ (r_J171 hJ (by omega)) (fun b' l' g1 g2 g3 => r_up hm g3 hl (Or.inl g1) (hP b' l' g1 g2 g3)) (fun l' g1 g2 => ?_)
  by_cases e : l' = l
  · subst e
    intro hn
    rw [w_urs] at hn
    obtain ⟨k, k1, k2, k3, k4, k5⟩ := (hw hn).resolve_left (fun h => h (hw0 g2))
    have hpk : 0 < 2 ^ k := Nat.pos_of_ne_zero (by simp)
    exact ⟨k, k1, k2, k3, by rw [w_urn (by omega)]; exact k4, by rw [w_urn (by omega)]; exact k5⟩
  · exact r_up hm (by omega) hl (Or.inr ⟨rfl, e⟩) (hR l' (by omega) g2)
theorem r_qA (S : v_Sf) (R : v_Rf) (hJ : r_J S0 R0 S R) (hm : m ≤ 8) (b l : Nat) (b1 : b < 2 ^ m) (hl : l < m) (hP : r_P S m b) (hR : ∀ l', l' < l → b < 2 ^ m - 1 → r_ok S m b l') (K : ∀ (x5 x4 : Int32) (S : v_Sf), r_J S0 R0 S R → r_P S m b → (∀ l', l' < l + 1 → b < 2 ^ m - 1 → r_ok S m b l') → w_T L xs (d + 1) m_X12_laysRing 78 [(3, .int ((Int32.ofInt ((l + 1 : Nat) : Int)))), (2, .int (Int32.ofInt (b : Int))), (5, .int x5), (4, .int x4), (0, .ref 100), (1, .int (Int32.ofInt (m : Int)))] [] S R Q) : w_T L xs (d + 1) m_X12_laysRing 78 [(3, .int (Int32.ofInt (l : Int))), (2, .int (Int32.ofInt (b : Int))), (0, .ref 100), (1, .int (Int32.ofInt (m : Int)))] [] S R Q := by
  have p8 := r_p8 ⟨m, by omega⟩
  have pw := r_pw ⟨m, by omega⟩
  dsimp only at p8 pw
  have em := w_nat (k := m) (by omega)
  have el := w_nat (k := l) (by omega)
  have eb := w_nat (k := b) (by omega)
  have e9 := w_nat (k := 2 ^ m - 1) (by omega)
  have e8 : Int32.ofInt 8 * Int32.ofInt (l : Int) = Int32.ofInt ((8 * l : Nat) : Int) := by rw [← Int32.ofInt_mul]; rfl
  have w8 := w_nat (k := 8 * l) (by omega)
  refine w_st rfl (fun _ => rfl) ?_
  refine w_st rfl (fun _ => rfl) ?_
  show w_T L xs (d + 1) m_X12_laysRing 80 [(3, .int (Int32.ofInt (l : Int))), (2, .int (Int32.ofInt (b : Int))), (0, .ref 100), (1, .int (Int32.ofInt (m : Int)))] [.int (Int32.ofInt (m : Int)), .int (Int32.ofInt (l : Int))] S R Q
  refine w_br (P := (Int32.ofInt (m : Int)) ≤ (Int32.ofInt (l : Int))) rfl (fun _ => rfl) (fun h80 => ?_) (fun h80 => ?_)
  · exfalso; rw [q_le32, em, el] at h80; omega
  · refine w_st rfl (fun _ => rfl) ?_
    refine w_st rfl (fun _ => rfl) ?_
    refine w_st rfl (fun _ => rfl) ?_
    refine w_st rfl (fun _ => rfl) ?_
    refine w_st rfl (fun _ => rfl) ?_
    refine w_st rfl (fun _ => rfl) ?_
    show w_T L xs (d + 1) m_X12_laysRing 89 [(3, .int (Int32.ofInt (l : Int))), (2, .int (Int32.ofInt (b : Int))), (0, .ref 100), (1, .int (Int32.ofInt (m : Int)))] [.int (((Int32.ofInt 1) <<< ((Int32.ofInt (m : Int)) &&& 31)) - (Int32.ofInt 1)), .int (Int32.ofInt (b : Int))] S R Q
    refine w_br (P := ¬ (Int32.ofInt (b : Int)) = (((Int32.ofInt 1) <<< ((Int32.ofInt (m : Int)) &&& 31)) - (Int32.ofInt 1))) rfl (fun _ => rfl) (fun h89 => ?_) (fun h89 => ?_)
    · refine w_st rfl (fun _ => rfl) ?_
      refine w_st rfl (fun _ => rfl) ?_
      refine w_st rfl (fun _ => rfl) ?_
      refine w_st rfl (fun _ => rfl) ?_
      show w_T L xs (d + 1) m_X12_laysRing 118 [(5, .int (Int32.ofInt 1)), (4, .int (Int32.ofInt 0)), (3, .int (Int32.ofInt (l : Int))), (2, .int (Int32.ofInt (b : Int))), (0, .ref 100), (1, .int (Int32.ofInt (m : Int)))] [] S R Q
      first
        | exact r_row S R hJ hm (by omega) b l b1 hl _ (fun _ => rfl) hP hR K
        | exact r_row S R hJ hm (by omega) b l b1 hl _ (fun h => absurd h hfull) hP hR K
    · have hfull : ¬ b < 2 ^ m - 1 := by
        have e := congrArg Int32.toInt (Decidable.of_not_not h89)
        rw [pw, eb, e9] at e
        omega
      refine w_st rfl (fun _ => rfl) ?_
      show w_T L xs (d + 1) m_X12_laysRing 93 [(3, .int (Int32.ofInt (l : Int))), (2, .int (Int32.ofInt (b : Int))), (0, .ref 100), (1, .int (Int32.ofInt (m : Int)))] [.ref 100] S R Q
      refine w_getr rfl v_tyM rfl ?_
      refine w_st rfl (fun _ => rfl) ?_
      refine w_st rfl (fun _ => rfl) ?_
      refine w_st rfl (fun _ => rfl) ?_
      show w_T L xs (d + 1) m_X12_laysRing 100 [(3, .int (Int32.ofInt (l : Int))), (2, .int (Int32.ofInt (b : Int))), (0, .ref 100), (1, .int (Int32.ofInt (m : Int)))] [.int ((Int32.ofInt 8) * (Int32.ofInt (l : Int))), .ref 173] S R Q
      refine w_bald rfl rfl (by decide) (by rw [e8, w8]; omega) (by rw [e8, w8]; omega) ?_
      generalize S 172 _ = pc9
      show w_T L xs (d + 1) m_X12_laysRing 101 [(3, .int (Int32.ofInt (l : Int))), (2, .int (Int32.ofInt (b : Int))), (0, .ref 100), (1, .int (Int32.ofInt (m : Int)))] [.int pc9] S R Q
      refine w_br (P := pc9 = 0) rfl (fun _ => rfl) (fun h101 => ?_) (fun h101 => ?_)
      · refine w_st rfl (fun _ => rfl) ?_
        refine w_st rfl (fun _ => rfl) ?_
        refine w_st rfl (fun _ => rfl) ?_
        refine w_st rfl (fun _ => rfl) ?_
        refine w_st rfl (fun _ => rfl) ?_
        show w_T L xs (d + 1) m_X12_laysRing 118 [(5, .int (Int32.ofInt 1)), (4, .int (Int32.ofInt 0)), (3, .int (Int32.ofInt (l : Int))), (2, .int (Int32.ofInt (b : Int))), (0, .ref 100), (1, .int (Int32.ofInt (m : Int)))] [] S R Q
        first
          | exact r_row S R hJ hm (by omega) b l b1 hl _ (fun _ => rfl) hP hR K
          | exact r_row S R hJ hm (by omega) b l b1 hl _ (fun h => absurd h hfull) hP hR K
      · refine w_st rfl (fun _ => rfl) ?_
        refine w_st rfl (fun _ => rfl) ?_
        refine w_st rfl (fun _ => rfl) ?_
        refine w_st rfl (fun _ => rfl) ?_
        refine w_st rfl (fun _ => rfl) ?_
        show w_T L xs (d + 1) m_X12_laysRing 118 [(5, .int (Int32.ofInt 1)), (4, .int (Int32.ofInt 1)), (3, .int (Int32.ofInt (l : Int))), (2, .int (Int32.ofInt (b : Int))), (0, .ref 100), (1, .int (Int32.ofInt (m : Int)))] [] S R Q
        first
          | exact r_row S R hJ hm (by omega) b l b1 hl _ (fun _ => rfl) hP hR K
          | exact r_row S R hJ hm (by omega) b l b1 hl _ (fun h => absurd h hfull) hP hR K
theorem r_qB (S : v_Sf) (R : v_Rf) (hJ : r_J S0 R0 S R) (hm : m ≤ 8) (b l : Nat) (b1 : b < 2 ^ m) (hl : l < m) (x5 x4 : Int32) (hP : r_P S m b) (hR : ∀ l', l' < l → b < 2 ^ m - 1 → r_ok S m b l') (K : ∀ (x5 x4 : Int32) (S : v_Sf), r_J S0 R0 S R → r_P S m b → (∀ l', l' < l + 1 → b < 2 ^ m - 1 → r_ok S m b l') → w_T L xs (d + 1) m_X12_laysRing 78 [(3, .int ((Int32.ofInt ((l + 1 : Nat) : Int)))), (2, .int (Int32.ofInt (b : Int))), (5, .int x5), (4, .int x4), (0, .ref 100), (1, .int (Int32.ofInt (m : Int)))] [] S R Q) : w_T L xs (d + 1) m_X12_laysRing 78 [(3, .int (Int32.ofInt (l : Int))), (2, .int (Int32.ofInt (b : Int))), (5, .int x5), (4, .int x4), (0, .ref 100), (1, .int (Int32.ofInt (m : Int)))] [] S R Q := by
  have p8 := r_p8 ⟨m, by omega⟩
  have pw := r_pw ⟨m, by omega⟩
  dsimp only at p8 pw
  have em := w_nat (k := m) (by omega)
  have el := w_nat (k := l) (by omega)
  have eb := w_nat (k := b) (by omega)
  have e9 := w_nat (k := 2 ^ m - 1) (by omega)
  have e8 : Int32.ofInt 8 * Int32.ofInt (l : Int) = Int32.ofInt ((8 * l : Nat) : Int) := by rw [← Int32.ofInt_mul]; rfl
  have w8 := w_nat (k := 8 * l) (by omega)
  refine w_st rfl (fun _ => rfl) ?_
  refine w_st rfl (fun _ => rfl) ?_
  show w_T L xs (d + 1) m_X12_laysRing 80 [(3, .int (Int32.ofInt (l : Int))), (2, .int (Int32.ofInt (b : Int))), (5, .int x5), (4, .int x4), (0, .ref 100), (1, .int (Int32.ofInt (m : Int)))] [.int (Int32.ofInt (m : Int)), .int (Int32.ofInt (l : Int))] S R Q
  refine w_br (P := (Int32.ofInt (m : Int)) ≤ (Int32.ofInt (l : Int))) rfl (fun _ => rfl) (fun h80 => ?_) (fun h80 => ?_)
  · exfalso; rw [q_le32, em, el] at h80; omega
  · refine w_st rfl (fun _ => rfl) ?_
    refine w_st rfl (fun _ => rfl) ?_
    refine w_st rfl (fun _ => rfl) ?_
    refine w_st rfl (fun _ => rfl) ?_
    refine w_st rfl (fun _ => rfl) ?_
    refine w_st rfl (fun _ => rfl) ?_
    show w_T L xs (d + 1) m_X12_laysRing 89 [(3, .int (Int32.ofInt (l : Int))), (2, .int (Int32.ofInt (b : Int))), (5, .int x5), (4, .int x4), (0, .ref 100), (1, .int (Int32.ofInt (m : Int)))] [.int (((Int32.ofInt 1) <<< ((Int32.ofInt (m : Int)) &&& 31)) - (Int32.ofInt 1)), .int (Int32.ofInt (b : Int))] S R Q
    refine w_br (P := ¬ (Int32.ofInt (b : Int)) = (((Int32.ofInt 1) <<< ((Int32.ofInt (m : Int)) &&& 31)) - (Int32.ofInt 1))) rfl (fun _ => rfl) (fun h89 => ?_) (fun h89 => ?_)
    · refine w_st rfl (fun _ => rfl) ?_
      refine w_st rfl (fun _ => rfl) ?_
      refine w_st rfl (fun _ => rfl) ?_
      refine w_st rfl (fun _ => rfl) ?_
      show w_T L xs (d + 1) m_X12_laysRing 118 [(5, .int (Int32.ofInt 1)), (4, .int (Int32.ofInt 0)), (3, .int (Int32.ofInt (l : Int))), (2, .int (Int32.ofInt (b : Int))), (0, .ref 100), (1, .int (Int32.ofInt (m : Int)))] [] S R Q
      first
        | exact r_row S R hJ hm (by omega) b l b1 hl _ (fun _ => rfl) hP hR K
        | exact r_row S R hJ hm (by omega) b l b1 hl _ (fun h => absurd h hfull) hP hR K
    · have hfull : ¬ b < 2 ^ m - 1 := by
        have e := congrArg Int32.toInt (Decidable.of_not_not h89)
        rw [pw, eb, e9] at e
        omega
      refine w_st rfl (fun _ => rfl) ?_
      show w_T L xs (d + 1) m_X12_laysRing 93 [(3, .int (Int32.ofInt (l : Int))), (2, .int (Int32.ofInt (b : Int))), (5, .int x5), (4, .int x4), (0, .ref 100), (1, .int (Int32.ofInt (m : Int)))] [.ref 100] S R Q
      refine w_getr rfl v_tyM rfl ?_
      refine w_st rfl (fun _ => rfl) ?_
      refine w_st rfl (fun _ => rfl) ?_
      refine w_st rfl (fun _ => rfl) ?_
      show w_T L xs (d + 1) m_X12_laysRing 100 [(3, .int (Int32.ofInt (l : Int))), (2, .int (Int32.ofInt (b : Int))), (5, .int x5), (4, .int x4), (0, .ref 100), (1, .int (Int32.ofInt (m : Int)))] [.int ((Int32.ofInt 8) * (Int32.ofInt (l : Int))), .ref 173] S R Q
      refine w_bald rfl rfl (by decide) (by rw [e8, w8]; omega) (by rw [e8, w8]; omega) ?_
      generalize S 172 _ = pc9
      show w_T L xs (d + 1) m_X12_laysRing 101 [(3, .int (Int32.ofInt (l : Int))), (2, .int (Int32.ofInt (b : Int))), (5, .int x5), (4, .int x4), (0, .ref 100), (1, .int (Int32.ofInt (m : Int)))] [.int pc9] S R Q
      refine w_br (P := pc9 = 0) rfl (fun _ => rfl) (fun h101 => ?_) (fun h101 => ?_)
      · refine w_st rfl (fun _ => rfl) ?_
        refine w_st rfl (fun _ => rfl) ?_
        refine w_st rfl (fun _ => rfl) ?_
        refine w_st rfl (fun _ => rfl) ?_
        refine w_st rfl (fun _ => rfl) ?_
        show w_T L xs (d + 1) m_X12_laysRing 118 [(5, .int (Int32.ofInt 1)), (4, .int (Int32.ofInt 0)), (3, .int (Int32.ofInt (l : Int))), (2, .int (Int32.ofInt (b : Int))), (0, .ref 100), (1, .int (Int32.ofInt (m : Int)))] [] S R Q
        first
          | exact r_row S R hJ hm (by omega) b l b1 hl _ (fun _ => rfl) hP hR K
          | exact r_row S R hJ hm (by omega) b l b1 hl _ (fun h => absurd h hfull) hP hR K
      · refine w_st rfl (fun _ => rfl) ?_
        refine w_st rfl (fun _ => rfl) ?_
        refine w_st rfl (fun _ => rfl) ?_
        refine w_st rfl (fun _ => rfl) ?_
        refine w_st rfl (fun _ => rfl) ?_
        show w_T L xs (d + 1) m_X12_laysRing 118 [(5, .int (Int32.ofInt 1)), (4, .int (Int32.ofInt 1)), (3, .int (Int32.ofInt (l : Int))), (2, .int (Int32.ofInt (b : Int))), (0, .ref 100), (1, .int (Int32.ofInt (m : Int)))] [] S R Q
        first
          | exact r_row S R hJ hm (by omega) b l b1 hl _ (fun _ => rfl) hP hR K
          | exact r_row S R hJ hm (by omega) b l b1 hl _ (fun h => absurd h hfull) hP hR K
theorem r_lB (R : v_Rf) (hm : m ≤ 8) (b : Nat) (b1 : b < 2 ^ m) (K : ∀ (x3 x5 x4 : Int32) (S : v_Sf), r_J S0 R0 S R → r_P S m b → (∀ l', l' < m → b < 2 ^ m - 1 → r_ok S m b l') → w_T L xs (d + 1) m_X12_laysRing 195 [(3, .int x3), (2, .int (Int32.ofInt (b : Int))), (5, .int x5), (4, .int x4), (0, .ref 100), (1, .int (Int32.ofInt (m : Int)))] [] S R Q) : ∀ (c l : Nat) (x5 x4 : Int32) (S : v_Sf), l + c = m → r_J S0 R0 S R → r_P S m b → (∀ l', l' < l → b < 2 ^ m - 1 → r_ok S m b l') → w_T L xs (d + 1) m_X12_laysRing 78 [(3, .int (Int32.ofInt (l : Int))), (2, .int (Int32.ofInt (b : Int))), (5, .int x5), (4, .int x4), (0, .ref 100), (1, .int (Int32.ofInt (m : Int)))] [] S R Q := by
  intro c
  induction c with
  | zero =>
    intro l x5 x4 S hl hJ hP hR
    obtain rfl : l = m := by omega
    refine w_st rfl (fun _ => rfl) ?_
    refine w_st rfl (fun _ => rfl) ?_
    show w_T L xs (d + 1) m_X12_laysRing 80 [(3, .int (Int32.ofInt (l : Int))), (2, .int (Int32.ofInt (b : Int))), (5, .int x5), (4, .int x4), (0, .ref 100), (1, .int (Int32.ofInt (l : Int)))] [.int (Int32.ofInt (l : Int)), .int (Int32.ofInt (l : Int))] S R Q
    refine w_br (P := (Int32.ofInt (l : Int)) ≤ (Int32.ofInt (l : Int))) rfl (fun _ => rfl) (fun h80 => ?_) (fun h80 => ?_)
    · exact K _ _ _ S hJ hP hR
    · exfalso; rw [q_le32] at h80; omega
  | succ c ih =>
    intro l x5 x4 S hl hJ hP hR
    exact r_qB S R hJ hm b l b1 (by omega) x5 x4 hP hR (fun x5 x4 S hJ hP hR => ih (l + 1) x5 x4 S (by omega) hJ hP hR)
theorem r_sB (R : v_Rf) (hm : m ≤ 8) (hm1 : 1 ≤ m) (K : ∀ S, r_J S0 R0 S R → r_P S m 0 → Q none S R) : ∀ (b : Nat) (x3 x5 x4 : Int32) (S : v_Sf), b < 2 ^ m → r_J S0 R0 S R → r_P S m b → w_T L xs (d + 1) m_X12_laysRing 72 [(2, .int (Int32.ofInt (b : Int))), (3, .int x3), (5, .int x5), (4, .int x4), (0, .ref 100), (1, .int (Int32.ofInt (m : Int)))] [] S R Q := by
  have p8 := r_p8 ⟨m, by omega⟩
  dsimp only at p8
  have z0 : (0 : Int32).toInt = 0 := rfl
  intro b
  induction b with
  | zero =>
    intro x3 x5 x4 S b1 hJ hP
    refine w_st rfl (fun _ => rfl) ?_
    show w_T L xs (d + 1) m_X12_laysRing 73 [(2, .int (Int32.ofInt ((0 : Nat) : Int))), (3, .int x3), (5, .int x5), (4, .int x4), (0, .ref 100), (1, .int (Int32.ofInt (m : Int)))] [.int (Int32.ofInt ((0 : Nat) : Int))] S R Q
    refine w_st rfl (fun _ => rfl) ?_
    show w_T L xs (d + 1) m_X12_laysRing 201 [(2, .int (Int32.ofInt ((0 : Nat) : Int))), (3, .int x3), (5, .int x5), (4, .int x4), (0, .ref 100), (1, .int (Int32.ofInt (m : Int)))] [] S R Q
    refine w_ret rfl rfl ?_
    exact K S hJ hP
  | succ b ih =>
    intro x3 x5 x4 S b1 hJ hP
    have eb := w_nat (k := b + 1) (by omega)
    refine w_st rfl (fun _ => rfl) ?_
    show w_T L xs (d + 1) m_X12_laysRing 73 [(2, .int (Int32.ofInt ((b + 1 : Nat) : Int))), (3, .int x3), (5, .int x5), (4, .int x4), (0, .ref 100), (1, .int (Int32.ofInt (m : Int)))] [.int (Int32.ofInt ((b + 1 : Nat) : Int))] S R Q
    refine w_br (P := (Int32.ofInt ((b + 1 : Nat) : Int)) ≤ 0) rfl (fun _ => rfl) (fun h73 => ?_) (fun h73 => ?_)
    · exfalso; rw [q_le32, eb, z0] at h73; omega
    · refine w_st rfl (fun _ => rfl) ?_
      refine w_st rfl (fun _ => rfl) ?_
      show w_T L xs (d + 1) m_X12_laysRing 78 [(3, .int (Int32.ofInt 0)), (2, .int (Int32.ofInt ((b + 1 : Nat) : Int))), (5, .int x5), (4, .int x4), (0, .ref 100), (1, .int (Int32.ofInt (m : Int)))] [] S R Q
      refine r_lB R hm (b + 1) b1 (fun x3 x5 x4 S1 hJ1 hP1 hR1 => ?_) m 0 x5 x4 S (by omega) hJ hP (fun l' h => absurd h (by omega))
      refine w_st rfl (fun _ => rfl) ?_
      refine w_st rfl (fun _ => rfl) ?_
      show w_T L xs (d + 1) m_X12_laysRing 72 [(2, .int ((Int32.ofInt ((b + 1 : Nat) : Int)) + Int32.ofInt (-1))), (3, .int x3), (5, .int x5), (4, .int x4), (0, .ref 100), (1, .int (Int32.ofInt (m : Int)))] [] S1 R Q
      rw [w_dec (by omega)]
      exact ih _ _ _ S1 (by omega) hJ1 (fun b' l' g1 g2 g3 => by
        by_cases e : b' = b + 1
        · subst e; exact hR1 l' g3 g2
        · exact hP1 b' l' (by omega) g2 g3)
theorem r_sA (R : v_Rf) (hm : m ≤ 8) (hm1 : 1 ≤ m) (K : ∀ S, r_J S0 R0 S R → r_P S m 0 → Q none S R) (b : Nat) (x3 : Int32) (S : v_Sf) (b1 : b + 1 < 2 ^ m) (hJ : r_J S0 R0 S R) (hP : r_P S m (b + 1)) : w_T L xs (d + 1) m_X12_laysRing 72 [(2, .int ((Int32.ofInt ((b + 1 : Nat) : Int)))), (3, .int x3), (0, .ref 100), (1, .int (Int32.ofInt (m : Int)))] [] S R Q := by
  have p8 := r_p8 ⟨m, by omega⟩
  dsimp only at p8
  have z0 : (0 : Int32).toInt = 0 := rfl
  have eb := w_nat (k := b + 1) (by omega)
  refine w_st rfl (fun _ => rfl) ?_
  show w_T L xs (d + 1) m_X12_laysRing 73 [(2, .int (Int32.ofInt ((b + 1 : Nat) : Int))), (3, .int x3), (0, .ref 100), (1, .int (Int32.ofInt (m : Int)))] [.int (Int32.ofInt ((b + 1 : Nat) : Int))] S R Q
  refine w_br (P := (Int32.ofInt ((b + 1 : Nat) : Int)) ≤ 0) rfl (fun _ => rfl) (fun h73 => ?_) (fun h73 => ?_)
  · exfalso; rw [q_le32, eb, z0] at h73; omega
  · refine w_st rfl (fun _ => rfl) ?_
    refine w_st rfl (fun _ => rfl) ?_
    show w_T L xs (d + 1) m_X12_laysRing 78 [(3, .int (Int32.ofInt 0)), (2, .int (Int32.ofInt ((b + 1 : Nat) : Int))), (0, .ref 100), (1, .int (Int32.ofInt (m : Int)))] [] S R Q
    refine r_qA S R hJ hm (b + 1) 0 b1 (by omega) hP (fun l' h => absurd h (by omega)) (fun x5 x4 S hJ hP hR => ?_)
    refine r_lB R hm (b + 1) b1 (fun x3 x5 x4 S1 hJ1 hP1 hR1 => ?_) (m - 1) (0 + 1) x5 x4 S (by omega) hJ hP hR
    refine w_st rfl (fun _ => rfl) ?_
    refine w_st rfl (fun _ => rfl) ?_
    show w_T L xs (d + 1) m_X12_laysRing 72 [(2, .int ((Int32.ofInt ((b + 1 : Nat) : Int)) + Int32.ofInt (-1))), (3, .int x3), (5, .int x5), (4, .int x4), (0, .ref 100), (1, .int (Int32.ofInt (m : Int)))] [] S1 R Q
    rw [w_dec (by omega)]
    exact r_sB R hm hm1 K b _ _ _ S1 (by omega) hJ1 (fun b' l' g1 g2 g3 => by
      by_cases e : b' = b + 1
      · subst e; exact hR1 l' g3 g2
      · exact hP1 b' l' (by omega) g2 g3)
theorem r_lays (hD : v_Met L xs v_ty v_Op 207 rw_192) (hm : m ≤ 8) (hm1 : 1 ≤ m) (S : v_Sf) (R : v_Rf) (hJ : r_J S0 R0 S R) (K : ∀ S R, r_J S0 R0 S R → r_P S m 0 → Q none S R) : w_T L xs (d + 9) m_X12_laysRing 0 (lv_args 0 [.ref 100, .int (Int32.ofInt (m : Int))]) [] S R Q := by
  have p8 := r_p8 ⟨m, by omega⟩
  have pw := r_pw ⟨m, by omega⟩
  dsimp only at p8 pw
  have em := w_nat (k := m) (by omega)
  have hp2 : 2 ≤ 2 ^ m := Nat.le_trans (by decide : 2 ≤ 2 ^ 1) (Nat.pow_le_pow_right (by decide) hm1)
  refine w_st rfl (fun _ => rfl) ?_
  refine w_st rfl (fun _ => rfl) ?_
  refine w_st rfl (fun _ => rfl) ?_
  refine w_st rfl (fun _ => rfl) ?_
  show w_T L xs (d + 9) m_X12_laysRing 4 [(2, .int (Int32.ofInt 0)), (0, .ref 100), (1, .int (Int32.ofInt (m : Int)))] [.int (Int32.ofInt (m : Int)), .int (Int32.ofInt 0)] S R Q
  refine w_br (P := (Int32.ofInt (m : Int)) ≤ (Int32.ofInt 0)) rfl (fun _ => rfl) (fun h4 => ?_) (fun h4 => ?_)
  · exfalso
    have z0 : (Int32.ofInt 0).toInt = 0 := by decide
    rw [q_le32, em] at h4
    omega
  · refine w_st rfl (fun _ => rfl) ?_
    refine w_st rfl (fun _ => rfl) ?_
    show w_T L xs (d + 9) m_X12_laysRing 9 [(3, .int (Int32.ofInt 0)), (2, .int (Int32.ofInt 0)), (0, .ref 100), (1, .int (Int32.ofInt (m : Int)))] [] S R Q
    refine r_pI hD hm 0 (by omega) (fun S1 R1 hJ1 => ?_) m 0 S R (by omega) hJ
    refine w_st rfl (fun _ => rfl) ?_
    refine w_st rfl (fun _ => rfl) ?_
    show w_T L xs (d + 9) m_X12_laysRing 2 [(2, .int ((Int32.ofInt ((0 : Nat) : Int)) + Int32.ofInt 1)), (3, .int (Int32.ofInt (m : Int))), (0, .ref 100), (1, .int (Int32.ofInt (m : Int)))] [] S1 R1 Q
    refine r_pO hD hm (fun x3 S2 R2 hJ2 => ?_) (m - 1) (0 + 1) _ S1 R1 (by omega) hJ1
    refine w_st rfl (fun _ => rfl) ?_
    refine w_st rfl (fun _ => rfl) ?_
    refine w_st rfl (fun _ => rfl) ?_
    refine w_st rfl (fun _ => rfl) ?_
    refine w_st rfl (fun _ => rfl) ?_
    refine w_st rfl (fun _ => rfl) ?_
    show w_T L xs (d + 9) m_X12_laysRing 72 [(2, .int (((Int32.ofInt 1) <<< ((Int32.ofInt (m : Int)) &&& 31)) - (Int32.ofInt 1))), (3, .int x3), (0, .ref 100), (1, .int (Int32.ofInt (m : Int)))] [] S2 R2 Q
    rw [pw]
    obtain ⟨b, hb⟩ : ∃ b, 2 ^ m - 1 = b + 1 := ⟨2 ^ m - 2, by omega⟩
    rw [hb]
    exact w_dm (by omega) (r_sA (d := d) R2 hm hm1 (fun S' h1 h2 => K S' R2 h1 h2) b x3 S2 (by omega) hJ2 (fun b' l' g1 g2 g3 => absurd g2 (by omega)))
end RL
