section Prt39
/-! fair: areGusts, byteAt -/
noncomputable abbrev m_X12_fair : g_M := (g_cn 12, yX12_fair, cX12_fair, 7, (some .int), g_look2 ttX12_fair)
set_option maxRecDepth 20000 in
theorem mt_X12_fair : g_mt 279 = some m_X12_fair := rfl
noncomputable abbrev m_X12_areGusts : g_M := (g_cn 12, yX12_areGusts, cX12_areGusts, 4, (some .boolean), g_look2 ttX12_areGusts)
set_option maxRecDepth 20000 in
theorem mt_X12_areGusts : g_mt 250 = some m_X12_areGusts := rfl
noncomputable abbrev m_X12_byteAt : g_M := (g_cn 12, yX12_byteAt, cX12_byteAt, 2, (some .int), g_look2 ttX12_byteAt)
set_option maxRecDepth 20000 in
theorem mt_X12_byteAt : g_mt 166 = some m_X12_byteAt := rfl
noncomputable abbrev m_X12_toldGusts : g_M := (g_cn 12, yX12_toldGusts, cX12_toldGusts, 3, (some .int), g_look2 ttX12_toldGusts)
set_option maxRecDepth 20000 in
theorem mt_X12_toldGusts : g_mt 249 = some m_X12_toldGusts := rfl
section FR
variable {L : Nat} {xs : Nat → Int32} {d : Nat} {Q : Option Value → v_Sf → v_Rf → Prop}
theorem w_b255 (x : Int32) : 0 ≤ (x &&& Int32.ofInt 255).toInt ∧ (x &&& Int32.ofInt 255).toInt ≤ 255 := by
  have h : (x &&& Int32.ofInt 255).toBitVec.toNat ≤ 255 := by
    show (x.toBitVec &&& (Int32.ofInt 255).toBitVec).toNat ≤ 255
    rw [BitVec.toNat_and]
    exact Nat.and_le_right
  have := v_nn2 (x := x &&& Int32.ofInt 255) (by omega)
  omega
theorem h_liesO {S : v_Sf} {R : v_Rf} (a b c : Int64) (hq : ∀ u : Int32, (u = 0 ∨ b.toInt ≤ a.toInt ∧ a.toInt ≤ c.toInt) → Q (some (.int u)) S R) : w_T L xs d m_X12_lies 0 (lv_args 0 [.long a, .long b, .long c]) [] S R Q := by
  refine h_lies a b c (hq _ ?_)
  by_cases h : b.toInt ≤ a.toInt ∧ a.toInt ≤ c.toInt
  · exact Or.inr h
  · exact Or.inl (if_neg h)
theorem h_byte (S : v_Sf) (R : v_Rf) (k : Int32) (k1 : 0 ≤ k.toInt) (k2 : k.toInt ≤ 31) (hq : Q (some (.int (S 100 k.toInt.toNat &&& Int32.ofInt 255))) S R) : w_T L xs d m_X12_byteAt 0 (lv_args 0 [.ref 100, .int k]) [] S R Q := by
  refine w_st rfl (fun _ => rfl) ?_
  show w_T L xs d m_X12_byteAt 1 [(0, .ref 100), (1, .int k)] [.ref 100] S R Q
  refine w_getr rfl v_tyM rfl ?_
  refine w_st rfl (fun _ => rfl) ?_
  show w_T L xs d m_X12_byteAt 5 [(0, .ref 100), (1, .int k)] [.int k, .ref 101] S R Q
  refine w_bald rfl rfl (by decide) (by omega) (by omega) ?_
  refine w_st rfl (fun _ => rfl) ?_
  refine w_st rfl (fun _ => rfl) ?_
  show w_T L xs d m_X12_byteAt 10 [(0, .ref 100), (1, .int k)] [.int ((S 100 k.toInt.toNat) &&& (Int32.ofInt 255))] S R Q
  refine w_ret rfl rfl ?_
  exact hq
theorem h_areGusts (hG : v_Met L xs v_ty v_Op 249 rw_222) (S : v_Sf) (R : v_Rf) (sI lo hi : Int32) (hT : v_Tb v_ty S R) (hO : v_Op S) (hq : ∀ u : Int32, (u = 0 ∨ 1 ≤ sI.toInt ∧ sI.toInt ≤ 4095 ∧ lo.toInt ≤ (v_pop sI).toInt ∧ (v_pop sI).toInt ≤ hi.toInt) → Q (some (.int u)) S R) : w_T L xs (d + 1) m_X12_areGusts 0 (lv_args 0 [.ref 100, .int sI, .int lo, .int hi]) [] S R Q := by
  refine w_st rfl (fun _ => rfl) ?_
  show w_T L xs (d + 1) m_X12_areGusts 1 [(0, .ref 100), (1, .int sI), (2, .int lo), (3, .int hi)] [.int sI] S R Q
  refine w_br (P := sI ≤ 0) rfl (fun _ => rfl) (fun h1 => ?_) (fun h1 => ?_)
  · refine w_st rfl (fun _ => rfl) ?_
    show w_T L xs (d + 1) m_X12_areGusts 35 [(0, .ref 100), (1, .int sI), (2, .int lo), (3, .int hi)] [.int (Int32.ofInt 0)] S R Q
    refine w_ret rfl (by rfl) ?_
    first | exact hq _ (Or.inl rfl) | exact hq _ (Or.inr ⟨by omega, by omega, hc.1, hc.2⟩)
  · refine w_st rfl (fun _ => rfl) ?_
    refine w_st rfl (fun _ => rfl) ?_
    show w_T L xs (d + 1) m_X12_areGusts 6 [(0, .ref 100), (1, .int sI), (2, .int lo), (3, .int hi)] [.ref 100, .int sI] S R Q
    refine w_cv rfl (by decide) mt_X12_toldGusts v_tyM rfl rfl rfl (Nat.le_of_ble_eq_true rfl) (Nat.le_of_ble_eq_true rfl) (Nat.le_of_ble_eq_true rfl) ?_
    show w_T L xs _ m_X12_toldGusts 0 (lv_args 0 [.ref 100]) [] S R _
    refine w_met hG (Nat.zero_le _) mt_X12_toldGusts ⟨rfl, trivial⟩ hT hO (fun r S1 R1 hT1 hO1 hr hF => ?_)
    obtain ⟨u, hr, u1, u2⟩ := hr
    subst hr
    obtain ⟨rfl, rfl⟩ := v_Fr_nil hF
    refine w_st rfl (fun _ => rfl) ?_
    refine w_st rfl (fun _ => rfl) ?_
    refine w_st rfl (fun _ => rfl) ?_
    show w_T L xs (d + 1) m_X12_areGusts 12 [(0, .ref 100), (1, .int sI), (2, .int lo), (3, .int hi)] [.int (sI &&& (u ^^^ (Int32.ofInt (-1))))] S R Q
    refine w_br (P := ¬ (sI &&& (u ^^^ (Int32.ofInt (-1)))) = 0) rfl (fun _ => rfl) (fun h12 => ?_) (fun h12 => ?_)
    · refine w_st rfl (fun _ => rfl) ?_
      show w_T L xs (d + 1) m_X12_areGusts 35 [(0, .ref 100), (1, .int sI), (2, .int lo), (3, .int hi)] [.int (Int32.ofInt 0)] S R Q
      refine w_ret rfl (by rfl) ?_
      first | exact hq _ (Or.inl rfl) | exact hq _ (Or.inr ⟨by omega, by omega, hc.1, hc.2⟩)
    · refine w_st rfl (fun _ => rfl) ?_
      show w_T L xs (d + 1) m_X12_areGusts 16 [(0, .ref 100), (1, .int sI), (2, .int lo), (3, .int hi)] [.int sI] S R Q
      refine w_cs rfl (by decide) mt_X12_sizeOf (fun _ => rfl) (Nat.le_of_ble_eq_true rfl) (Nat.le_of_ble_eq_true rfl) ?_
      show w_T L xs _ m_X12_sizeOf 0 (lv_args 0 [.int sI]) [] S R _
      refine h_sizeOf _ ?_
      refine w_st rfl (fun _ => rfl) ?_
      refine w_st rfl (fun _ => rfl) ?_
      refine w_st rfl (fun _ => rfl) ?_
      refine w_st rfl (fun _ => rfl) ?_
      refine w_st rfl (fun _ => rfl) ?_
      show w_T L xs (d + 1) m_X12_areGusts 24 [(0, .ref 100), (1, .int sI), (2, .int lo), (3, .int hi)] [.long hi.toInt64, .long lo.toInt64, .long ((v_pop sI).toInt64)] S R Q
      refine w_cs rfl (by decide) mt_X12_lies (fun _ => rfl) (Nat.le_of_ble_eq_true rfl) (Nat.le_of_ble_eq_true rfl) ?_
      show w_T L xs _ m_X12_lies 0 (lv_args 0 [.long ((v_pop sI).toInt64), .long lo.toInt64, .long hi.toInt64]) [] S R _
      refine h_liesO _ _ _ (fun w hw => ?_)
      show w_T L xs (d + 1) m_X12_areGusts 27 [(0, .ref 100), (1, .int sI), (2, .int lo), (3, .int hi)] [.int w] S R Q
      refine w_br (P := w = 0) rfl (fun _ => rfl) (fun h27 => ?_) (fun h27 => ?_)
      · refine w_st rfl (fun _ => rfl) ?_
        show w_T L xs (d + 1) m_X12_areGusts 35 [(0, .ref 100), (1, .int sI), (2, .int lo), (3, .int hi)] [.int (Int32.ofInt 0)] S R Q
        refine w_ret rfl (by rfl) ?_
        first | exact hq _ (Or.inl rfl) | exact hq _ (Or.inr ⟨by omega, by omega, hc.1, hc.2⟩)
      · have hc := hw.resolve_left h27
        rw [Int32.toInt_toInt64, Int32.toInt_toInt64, Int32.toInt_toInt64] at hc
        have z0 : (0 : Int32).toInt = 0 := rfl
        have s1 : 0 < sI.toInt := by rw [q_le32] at h1; omega
        have s2 : sI.toInt ≤ u.toInt := v_andnot (by omega) u1 (Classical.byContradiction (fun hn => h12 hn))
        have u2 : u.toInt ≤ 4095 := u2
        refine w_st rfl (fun _ => rfl) ?_
        refine w_st rfl (fun _ => rfl) ?_
        show w_T L xs (d + 1) m_X12_areGusts 35 [(0, .ref 100), (1, .int sI), (2, .int lo), (3, .int hi)] [.int (Int32.ofInt 1)] S R Q
        refine w_ret rfl (by rfl) ?_
        first | exact hq _ (Or.inl rfl) | exact hq _ (Or.inr ⟨by omega, by omega, hc.1, hc.2⟩)
theorem h_fA (R : v_Rf) (nn sI : Int32) : ∀ (c k : Nat) (S : v_Sf), k + c = 5 → v_Tb v_ty S R → v_Op S → (∀ S', v_Tb v_ty S' R → v_Op S' → v_Fr [(99, 1, 1), (152, 0, 12), (165, 0, 5)] S R S' R → w_T L xs (d + 4) m_X12_fair 57 [(3, .int (Int32.ofInt 0)), (2, .int nn), (0, .ref 100), (1, .int sI)] [] S' R Q) → w_T L xs (d + 4) m_X12_fair 37 [(3, .int (Int32.ofInt (k : Int))), (2, .int nn), (0, .ref 100), (1, .int sI)] [] S R Q := by
  have e5 : (Int32.ofInt 5).toInt = 5 := by decide
  have f1 : ∀ j, v_frz 165 j j = false := fun j => rfl
  have c1 : ∀ j, j ≤ 5 → v_md [(99, 1, 1), (152, 0, 12), (165, 0, 5)] 165 j j = true := fun j hj => v_md_mono (lo := 0) (hi := 5) (by decide +kernel) (Nat.zero_le _) hj
  intro c
  induction c with
  | zero =>
    intro k S hk hT hO K
    obtain rfl : k = 5 := by omega
    refine w_st rfl (fun _ => rfl) ?_
    refine w_st rfl (fun _ => rfl) ?_
    show w_T L xs (d + 4) m_X12_fair 39 [(3, .int (Int32.ofInt ((5 : Nat) : Int))), (2, .int nn), (0, .ref 100), (1, .int sI)] [.int (Int32.ofInt 5), .int (Int32.ofInt ((5 : Nat) : Int))] S R Q
    refine w_st rfl (fun _ => rfl) ?_
    refine w_st rfl (fun _ => rfl) ?_
    refine w_st rfl (fun _ => rfl) ?_
    show w_T L xs (d + 4) m_X12_fair 57 [(3, .int (Int32.ofInt 0)), (2, .int nn), (0, .ref 100), (1, .int sI)] [] S R Q
    exact K S hT hO (v_Fr_rf _ _ _)
  | succ c ih =>
    intro k S hk hT hO K
    have ek := w_nat (k := k) (by omega)
    refine w_st rfl (fun _ => rfl) ?_
    refine w_st rfl (fun _ => rfl) ?_
    show w_T L xs (d + 4) m_X12_fair 39 [(3, .int (Int32.ofInt (k : Int))), (2, .int nn), (0, .ref 100), (1, .int sI)] [.int (Int32.ofInt 5), .int (Int32.ofInt (k : Int))] S R Q
    refine w_br (P := (Int32.ofInt 5) ≤ (Int32.ofInt (k : Int))) rfl (fun _ => rfl) (fun h39 => ?_) (fun h39 => ?_)
    · exfalso; rw [q_le32, e5, ek] at h39; omega
    · refine w_st rfl (fun _ => rfl) ?_
      show w_T L xs (d + 4) m_X12_fair 43 [(3, .int (Int32.ofInt (k : Int))), (2, .int nn), (0, .ref 100), (1, .int sI)] [.ref 100] S R Q
      refine w_getr rfl v_tyM rfl ?_
      refine w_st rfl (fun _ => rfl) ?_
      refine w_st rfl (fun _ => rfl) ?_
      show w_T L xs (d + 4) m_X12_fair 48 [(3, .int (Int32.ofInt (k : Int))), (2, .int nn), (0, .ref 100), (1, .int sI)] [.int (Int32.ofInt (-1)), .int (Int32.ofInt (k : Int)), .ref 166] S R Q
      refine w_iast rfl rfl (by rw [ek]; omega) (by rw [ek]; omega) ?_
      refine w_st rfl (fun _ => rfl) ?_
      refine w_st rfl (fun _ => rfl) ?_
      show w_T L xs (d + 4) m_X12_fair 37 [(3, .int ((Int32.ofInt (k : Int)) + Int32.ofInt 1)), (2, .int nn), (0, .ref 100), (1, .int sI)] [] (v_ur S 165 (upd (S 165) (Int32.ofInt (k : Int)).toInt.toNat (Int32.ofInt (-1)))) R Q
      rw [w_inc]
      exact ih (k + 1) _ (by omega) (w_TbR hT (a := 165) rfl (by decide) (by decide)) (w_Op_ur (f1 _) hO) (fun S' a1 a2 a3 => K S' a1 a2 (v_Fr_tr (v_Fr_ur _ _ _ (c1 _ (by rw [ek]; omega))) a3))
noncomputable def w_okb (x : Int32) : Prop := x &&& Int32.ofInt 255 = Int32.ofInt 255 ∨ (x &&& Int32.ofInt 255).toInt ≤ 4
set_option maxHeartbeats 1000000 in
theorem h_fbA (S : v_Sf) (R : v_Rf) (nn sI b0 : Int32) (m : Nat) (hm : (m : Int) < nn.toInt) (hn : nn.toInt ≤ 6) (hT : v_Tb v_ty S R) (hO : v_Op S) (hq : ∀ (S' : v_Sf) (v : Int32), v_Tb v_ty S' R → v_Op S' → v_Fr [(99, 1, 1), (152, 0, 12), (165, 0, 5)] S R S' R → Q (some (.int v)) S' R) (K : ∀ (S' : v_Sf) (b' : Int32), v_Tb v_ty S' R → v_Op S' → v_Fr [(99, 1, 1), (152, 0, 12), (165, 0, 5)] S R S' R → w_okb (S 100 m) → w_T L xs (d + 4) m_X12_fair 57 [(3, .int (Int32.ofInt ((m + 1 : Nat) : Int))), (4, .int (b')), (2, .int nn), (0, .ref 100), (1, .int sI)] [] S' R Q) : w_T L xs (d + 4) m_X12_fair 57 [(3, .int (Int32.ofInt (m : Int))), (2, .int nn), (0, .ref 100), (1, .int sI)] [] S R Q := by
  have em := w_nat (k := m) (by omega)
  have emn : (Int32.ofInt (m : Int)).toInt.toNat = m := by rw [em]; omega
  have e5 : (Int32.ofInt 5).toInt = 5 := by decide
  have tS : v_TbC S R 152 _ := hT 152 _ rfl
  have gb : 0 ≤ (S 152 m).toInt ∧ (S 152 m).toInt ≤ 11 := tS _ (by omega)
  have f1 : ∀ j, v_frz 165 j j = false := fun j => rfl
  have c1 : ∀ j, j ≤ 5 → v_md [(99, 1, 1), (152, 0, 12), (165, 0, 5)] 165 j j = true := fun j hj => v_md_mono (lo := 0) (hi := 5) (by decide +kernel) (Nat.zero_le _) hj
  have bb := w_b255 (S 100 m)
  refine w_st rfl (fun _ => rfl) ?_
  refine w_st rfl (fun _ => rfl) ?_
  show w_T L xs (d + 4) m_X12_fair 59 [(3, .int (Int32.ofInt (m : Int))), (2, .int nn), (0, .ref 100), (1, .int sI)] [.int nn, .int (Int32.ofInt (m : Int))] S R Q
  refine w_br (P := nn ≤ (Int32.ofInt (m : Int))) rfl (fun _ => rfl) (fun h59 => ?_) (fun h59 => ?_)
  · exfalso; rw [q_le32, em] at h59; omega
  · refine w_st rfl (fun _ => rfl) ?_
    refine w_st rfl (fun _ => rfl) ?_
    show w_T L xs (d + 4) m_X12_fair 64 [(3, .int (Int32.ofInt (m : Int))), (2, .int nn), (0, .ref 100), (1, .int sI)] [.int (Int32.ofInt (m : Int)), .ref 100] S R Q
    refine w_cv rfl (by decide) mt_X12_byteAt v_tyM rfl rfl rfl (Nat.le_of_ble_eq_true rfl) (Nat.le_of_ble_eq_true rfl) (Nat.le_of_ble_eq_true rfl) ?_
    show w_T L xs _ m_X12_byteAt 0 (lv_args 0 [.ref 100, .int (Int32.ofInt (m : Int))]) [] S R _
    refine h_byte _ _ _ (by rw [em]; omega) (by rw [em]; omega) ?_
    rw [emn]
    refine w_st rfl (fun _ => rfl) ?_
    refine w_st rfl (fun _ => rfl) ?_
    refine w_st rfl (fun _ => rfl) ?_
    show w_T L xs (d + 4) m_X12_fair 74 [(4, .int (S 100 m &&& Int32.ofInt 255)), (3, .int (Int32.ofInt (m : Int))), (2, .int nn), (0, .ref 100), (1, .int sI)] [.int (Int32.ofInt 255), .int (S 100 m &&& Int32.ofInt 255)] S R Q
    refine w_br (P := ¬ (S 100 m &&& Int32.ofInt 255) = (Int32.ofInt 255)) rfl (fun _ => rfl) (fun h74 => ?_) (fun h74 => ?_)
    · refine w_st rfl (fun _ => rfl) ?_
      refine w_st rfl (fun _ => rfl) ?_
      show w_T L xs (d + 4) m_X12_fair 83 [(4, .int (S 100 m &&& Int32.ofInt 255)), (3, .int (Int32.ofInt (m : Int))), (2, .int nn), (0, .ref 100), (1, .int sI)] [.int (Int32.ofInt 5), .int (S 100 m &&& Int32.ofInt 255)] S R Q
      refine w_br (P := (Int32.ofInt 5) ≤ (S 100 m &&& Int32.ofInt 255)) rfl (fun _ => rfl) (fun h83 => ?_) (fun h83 => ?_)
      · refine w_st rfl (fun _ => rfl) ?_
        show w_T L xs (d + 4) m_X12_fair 109 [(4, .int (S 100 m &&& Int32.ofInt 255)), (3, .int (Int32.ofInt (m : Int))), (2, .int nn), (0, .ref 100), (1, .int sI)] [.int (Int32.ofInt (-2))] S R Q
        refine w_ret rfl rfl ?_
        exact hq S _ hT hO (v_Fr_rf _ _ _)
      · have b4 : (S 100 m &&& Int32.ofInt 255).toInt ≤ 4 := by rw [q_le32, e5] at h83; omega
        refine w_st rfl (fun _ => rfl) ?_
        show w_T L xs (d + 4) m_X12_fair 87 [(4, .int (S 100 m &&& Int32.ofInt 255)), (3, .int (Int32.ofInt (m : Int))), (2, .int nn), (0, .ref 100), (1, .int sI)] [.ref 100] S R Q
        refine w_getr rfl v_tyM rfl ?_
        refine w_st rfl (fun _ => rfl) ?_
        show w_T L xs (d + 4) m_X12_fair 92 [(4, .int (S 100 m &&& Int32.ofInt 255)), (3, .int (Int32.ofInt (m : Int))), (2, .int nn), (0, .ref 100), (1, .int sI)] [.int (S 100 m &&& Int32.ofInt 255), .ref 163] S R Q
        refine w_bald rfl rfl (by decide) (by omega) (by omega) ?_
        show w_T L xs (d + 4) m_X12_fair 93 [(4, .int (S 100 m &&& Int32.ofInt 255)), (3, .int (Int32.ofInt (m : Int))), (2, .int nn), (0, .ref 100), (1, .int sI)] [.int (S 162 (S 100 m &&& Int32.ofInt 255).toInt.toNat)] S R Q
        refine w_br (P := (S 162 (S 100 m &&& Int32.ofInt 255).toInt.toNat) = 0) rfl (fun _ => rfl) (fun h93 => ?_) (fun h93 => ?_)
        · refine w_st rfl (fun _ => rfl) ?_
          show w_T L xs (d + 4) m_X12_fair 109 [(4, .int (S 100 m &&& Int32.ofInt 255)), (3, .int (Int32.ofInt (m : Int))), (2, .int nn), (0, .ref 100), (1, .int sI)] [.int (Int32.ofInt (-2))] S R Q
          refine w_ret rfl rfl ?_
          exact hq S _ hT hO (v_Fr_rf _ _ _)
        · refine w_st rfl (fun _ => rfl) ?_
          show w_T L xs (d + 4) m_X12_fair 97 [(4, .int (S 100 m &&& Int32.ofInt 255)), (3, .int (Int32.ofInt (m : Int))), (2, .int nn), (0, .ref 100), (1, .int sI)] [.ref 100] S R Q
          refine w_getr rfl v_tyM rfl ?_
          refine w_st rfl (fun _ => rfl) ?_
          show w_T L xs (d + 4) m_X12_fair 102 [(4, .int (S 100 m &&& Int32.ofInt 255)), (3, .int (Int32.ofInt (m : Int))), (2, .int nn), (0, .ref 100), (1, .int sI)] [.int (S 100 m &&& Int32.ofInt 255), .ref 166] S R Q
          refine w_iald rfl rfl (by omega) (by omega) ?_
          refine w_st rfl (fun _ => rfl) ?_
          show w_T L xs (d + 4) m_X12_fair 104 [(4, .int (S 100 m &&& Int32.ofInt 255)), (3, .int (Int32.ofInt (m : Int))), (2, .int nn), (0, .ref 100), (1, .int sI)] [.int (Int32.ofInt (-1)), .int (S 165 (S 100 m &&& Int32.ofInt 255).toInt.toNat)] S R Q
          refine w_br (P := (S 165 (S 100 m &&& Int32.ofInt 255).toInt.toNat) = (Int32.ofInt (-1))) rfl (fun _ => rfl) (fun h104 => ?_) (fun h104 => ?_)
          · refine w_st rfl (fun _ => rfl) ?_
            show w_T L xs (d + 4) m_X12_fair 111 [(4, .int (S 100 m &&& Int32.ofInt 255)), (3, .int (Int32.ofInt (m : Int))), (2, .int nn), (0, .ref 100), (1, .int sI)] [.ref 100] S R Q
            refine w_getr rfl v_tyM rfl ?_
            refine w_st rfl (fun _ => rfl) ?_
            refine w_st rfl (fun _ => rfl) ?_
            show w_T L xs (d + 4) m_X12_fair 117 [(4, .int (S 100 m &&& Int32.ofInt 255)), (3, .int (Int32.ofInt (m : Int))), (2, .int nn), (0, .ref 100), (1, .int sI)] [.ref 100, .int (S 100 m &&& Int32.ofInt 255), .ref 166] S R Q
            refine w_getr rfl v_tyM rfl ?_
            refine w_st rfl (fun _ => rfl) ?_
            show w_T L xs (d + 4) m_X12_fair 121 [(4, .int (S 100 m &&& Int32.ofInt 255)), (3, .int (Int32.ofInt (m : Int))), (2, .int nn), (0, .ref 100), (1, .int sI)] [.int (Int32.ofInt (m : Int)), .ref 153, .int (S 100 m &&& Int32.ofInt 255), .ref 166] S R Q
            refine w_iald rfl rfl (by rw [em]; omega) (by rw [em]; omega) ?_
            rw [emn]
            show w_T L xs (d + 4) m_X12_fair 122 [(4, .int (S 100 m &&& Int32.ofInt 255)), (3, .int (Int32.ofInt (m : Int))), (2, .int nn), (0, .ref 100), (1, .int sI)] [.int (S 152 m), .int (S 100 m &&& Int32.ofInt 255), .ref 166] S R Q
            refine w_iast rfl rfl (by omega) (by omega) ?_
            refine w_st rfl (fun _ => rfl) ?_
            refine w_st rfl (fun _ => rfl) ?_
            show w_T L xs (d + 4) m_X12_fair 57 [(3, .int ((Int32.ofInt (m : Int)) + Int32.ofInt 1)), (4, .int (S 100 m &&& Int32.ofInt 255)), (2, .int nn), (0, .ref 100), (1, .int sI)] [] (v_ur S 165 (upd (S 165) (S 100 m &&& Int32.ofInt 255).toInt.toNat (S 152 m))) R Q
            rw [w_inc]
            exact K _ _ (w_TbR hT (a := 165) rfl (by omega) gb.2) (w_Op_ur (f1 _) hO) (v_Fr_ur _ _ _ (c1 _ (by omega))) (Or.inr (by omega))
          · refine w_st rfl (fun _ => rfl) ?_
            show w_T L xs (d + 4) m_X12_fair 109 [(4, .int (S 100 m &&& Int32.ofInt 255)), (3, .int (Int32.ofInt (m : Int))), (2, .int nn), (0, .ref 100), (1, .int sI)] [.int (Int32.ofInt (-2))] S R Q
            refine w_ret rfl rfl ?_
            exact hq S _ hT hO (v_Fr_rf _ _ _)
    · refine w_st rfl (fun _ => rfl) ?_
      refine w_st rfl (fun _ => rfl) ?_
      refine w_st rfl (fun _ => rfl) ?_
      show w_T L xs (d + 4) m_X12_fair 57 [(3, .int ((Int32.ofInt (m : Int)) + Int32.ofInt 1)), (4, .int (S 100 m &&& Int32.ofInt 255)), (2, .int nn), (0, .ref 100), (1, .int sI)] [] S R Q
      rw [w_inc]
      exact K S _ hT hO (v_Fr_rf _ _ _) (Or.inl (Classical.byContradiction (fun hh => h74 hh)))
set_option maxHeartbeats 1000000 in
theorem h_fbB (S : v_Sf) (R : v_Rf) (nn sI b0 : Int32) (m : Nat) (hm : (m : Int) < nn.toInt) (hn : nn.toInt ≤ 6) (hT : v_Tb v_ty S R) (hO : v_Op S) (hq : ∀ (S' : v_Sf) (v : Int32), v_Tb v_ty S' R → v_Op S' → v_Fr [(99, 1, 1), (152, 0, 12), (165, 0, 5)] S R S' R → Q (some (.int v)) S' R) (K : ∀ (S' : v_Sf) (b' : Int32), v_Tb v_ty S' R → v_Op S' → v_Fr [(99, 1, 1), (152, 0, 12), (165, 0, 5)] S R S' R → w_okb (S 100 m) → w_T L xs (d + 4) m_X12_fair 57 [(3, .int (Int32.ofInt ((m + 1 : Nat) : Int))), (4, .int (b')), (2, .int nn), (0, .ref 100), (1, .int sI)] [] S' R Q) : w_T L xs (d + 4) m_X12_fair 57 [(3, .int (Int32.ofInt (m : Int))), (4, .int b0), (2, .int nn), (0, .ref 100), (1, .int sI)] [] S R Q := by
  have em := w_nat (k := m) (by omega)
  have emn : (Int32.ofInt (m : Int)).toInt.toNat = m := by rw [em]; omega
  have e5 : (Int32.ofInt 5).toInt = 5 := by decide
  have tS : v_TbC S R 152 _ := hT 152 _ rfl
  have gb : 0 ≤ (S 152 m).toInt ∧ (S 152 m).toInt ≤ 11 := tS _ (by omega)
  have f1 : ∀ j, v_frz 165 j j = false := fun j => rfl
  have c1 : ∀ j, j ≤ 5 → v_md [(99, 1, 1), (152, 0, 12), (165, 0, 5)] 165 j j = true := fun j hj => v_md_mono (lo := 0) (hi := 5) (by decide +kernel) (Nat.zero_le _) hj
  have bb := w_b255 (S 100 m)
  refine w_st rfl (fun _ => rfl) ?_
  refine w_st rfl (fun _ => rfl) ?_
  show w_T L xs (d + 4) m_X12_fair 59 [(3, .int (Int32.ofInt (m : Int))), (4, .int b0), (2, .int nn), (0, .ref 100), (1, .int sI)] [.int nn, .int (Int32.ofInt (m : Int))] S R Q
  refine w_br (P := nn ≤ (Int32.ofInt (m : Int))) rfl (fun _ => rfl) (fun h59 => ?_) (fun h59 => ?_)
  · exfalso; rw [q_le32, em] at h59; omega
  · refine w_st rfl (fun _ => rfl) ?_
    refine w_st rfl (fun _ => rfl) ?_
    show w_T L xs (d + 4) m_X12_fair 64 [(3, .int (Int32.ofInt (m : Int))), (4, .int b0), (2, .int nn), (0, .ref 100), (1, .int sI)] [.int (Int32.ofInt (m : Int)), .ref 100] S R Q
    refine w_cv rfl (by decide) mt_X12_byteAt v_tyM rfl rfl rfl (Nat.le_of_ble_eq_true rfl) (Nat.le_of_ble_eq_true rfl) (Nat.le_of_ble_eq_true rfl) ?_
    show w_T L xs _ m_X12_byteAt 0 (lv_args 0 [.ref 100, .int (Int32.ofInt (m : Int))]) [] S R _
    refine h_byte _ _ _ (by rw [em]; omega) (by rw [em]; omega) ?_
    rw [emn]
    refine w_st rfl (fun _ => rfl) ?_
    refine w_st rfl (fun _ => rfl) ?_
    refine w_st rfl (fun _ => rfl) ?_
    show w_T L xs (d + 4) m_X12_fair 74 [(4, .int (S 100 m &&& Int32.ofInt 255)), (3, .int (Int32.ofInt (m : Int))), (2, .int nn), (0, .ref 100), (1, .int sI)] [.int (Int32.ofInt 255), .int (S 100 m &&& Int32.ofInt 255)] S R Q
    refine w_br (P := ¬ (S 100 m &&& Int32.ofInt 255) = (Int32.ofInt 255)) rfl (fun _ => rfl) (fun h74 => ?_) (fun h74 => ?_)
    · refine w_st rfl (fun _ => rfl) ?_
      refine w_st rfl (fun _ => rfl) ?_
      show w_T L xs (d + 4) m_X12_fair 83 [(4, .int (S 100 m &&& Int32.ofInt 255)), (3, .int (Int32.ofInt (m : Int))), (2, .int nn), (0, .ref 100), (1, .int sI)] [.int (Int32.ofInt 5), .int (S 100 m &&& Int32.ofInt 255)] S R Q
      refine w_br (P := (Int32.ofInt 5) ≤ (S 100 m &&& Int32.ofInt 255)) rfl (fun _ => rfl) (fun h83 => ?_) (fun h83 => ?_)
      · refine w_st rfl (fun _ => rfl) ?_
        show w_T L xs (d + 4) m_X12_fair 109 [(4, .int (S 100 m &&& Int32.ofInt 255)), (3, .int (Int32.ofInt (m : Int))), (2, .int nn), (0, .ref 100), (1, .int sI)] [.int (Int32.ofInt (-2))] S R Q
        refine w_ret rfl rfl ?_
        exact hq S _ hT hO (v_Fr_rf _ _ _)
      · have b4 : (S 100 m &&& Int32.ofInt 255).toInt ≤ 4 := by rw [q_le32, e5] at h83; omega
        refine w_st rfl (fun _ => rfl) ?_
        show w_T L xs (d + 4) m_X12_fair 87 [(4, .int (S 100 m &&& Int32.ofInt 255)), (3, .int (Int32.ofInt (m : Int))), (2, .int nn), (0, .ref 100), (1, .int sI)] [.ref 100] S R Q
        refine w_getr rfl v_tyM rfl ?_
        refine w_st rfl (fun _ => rfl) ?_
        show w_T L xs (d + 4) m_X12_fair 92 [(4, .int (S 100 m &&& Int32.ofInt 255)), (3, .int (Int32.ofInt (m : Int))), (2, .int nn), (0, .ref 100), (1, .int sI)] [.int (S 100 m &&& Int32.ofInt 255), .ref 163] S R Q
        refine w_bald rfl rfl (by decide) (by omega) (by omega) ?_
        show w_T L xs (d + 4) m_X12_fair 93 [(4, .int (S 100 m &&& Int32.ofInt 255)), (3, .int (Int32.ofInt (m : Int))), (2, .int nn), (0, .ref 100), (1, .int sI)] [.int (S 162 (S 100 m &&& Int32.ofInt 255).toInt.toNat)] S R Q
        refine w_br (P := (S 162 (S 100 m &&& Int32.ofInt 255).toInt.toNat) = 0) rfl (fun _ => rfl) (fun h93 => ?_) (fun h93 => ?_)
        · refine w_st rfl (fun _ => rfl) ?_
          show w_T L xs (d + 4) m_X12_fair 109 [(4, .int (S 100 m &&& Int32.ofInt 255)), (3, .int (Int32.ofInt (m : Int))), (2, .int nn), (0, .ref 100), (1, .int sI)] [.int (Int32.ofInt (-2))] S R Q
          refine w_ret rfl rfl ?_
          exact hq S _ hT hO (v_Fr_rf _ _ _)
        · refine w_st rfl (fun _ => rfl) ?_
          show w_T L xs (d + 4) m_X12_fair 97 [(4, .int (S 100 m &&& Int32.ofInt 255)), (3, .int (Int32.ofInt (m : Int))), (2, .int nn), (0, .ref 100), (1, .int sI)] [.ref 100] S R Q
          refine w_getr rfl v_tyM rfl ?_
          refine w_st rfl (fun _ => rfl) ?_
          show w_T L xs (d + 4) m_X12_fair 102 [(4, .int (S 100 m &&& Int32.ofInt 255)), (3, .int (Int32.ofInt (m : Int))), (2, .int nn), (0, .ref 100), (1, .int sI)] [.int (S 100 m &&& Int32.ofInt 255), .ref 166] S R Q
          refine w_iald rfl rfl (by omega) (by omega) ?_
          refine w_st rfl (fun _ => rfl) ?_
          show w_T L xs (d + 4) m_X12_fair 104 [(4, .int (S 100 m &&& Int32.ofInt 255)), (3, .int (Int32.ofInt (m : Int))), (2, .int nn), (0, .ref 100), (1, .int sI)] [.int (Int32.ofInt (-1)), .int (S 165 (S 100 m &&& Int32.ofInt 255).toInt.toNat)] S R Q
          refine w_br (P := (S 165 (S 100 m &&& Int32.ofInt 255).toInt.toNat) = (Int32.ofInt (-1))) rfl (fun _ => rfl) (fun h104 => ?_) (fun h104 => ?_)
          · refine w_st rfl (fun _ => rfl) ?_
            show w_T L xs (d + 4) m_X12_fair 111 [(4, .int (S 100 m &&& Int32.ofInt 255)), (3, .int (Int32.ofInt (m : Int))), (2, .int nn), (0, .ref 100), (1, .int sI)] [.ref 100] S R Q
            refine w_getr rfl v_tyM rfl ?_
            refine w_st rfl (fun _ => rfl) ?_
            refine w_st rfl (fun _ => rfl) ?_
            show w_T L xs (d + 4) m_X12_fair 117 [(4, .int (S 100 m &&& Int32.ofInt 255)), (3, .int (Int32.ofInt (m : Int))), (2, .int nn), (0, .ref 100), (1, .int sI)] [.ref 100, .int (S 100 m &&& Int32.ofInt 255), .ref 166] S R Q
            refine w_getr rfl v_tyM rfl ?_
            refine w_st rfl (fun _ => rfl) ?_
            show w_T L xs (d + 4) m_X12_fair 121 [(4, .int (S 100 m &&& Int32.ofInt 255)), (3, .int (Int32.ofInt (m : Int))), (2, .int nn), (0, .ref 100), (1, .int sI)] [.int (Int32.ofInt (m : Int)), .ref 153, .int (S 100 m &&& Int32.ofInt 255), .ref 166] S R Q
            refine w_iald rfl rfl (by rw [em]; omega) (by rw [em]; omega) ?_
            rw [emn]
            show w_T L xs (d + 4) m_X12_fair 122 [(4, .int (S 100 m &&& Int32.ofInt 255)), (3, .int (Int32.ofInt (m : Int))), (2, .int nn), (0, .ref 100), (1, .int sI)] [.int (S 152 m), .int (S 100 m &&& Int32.ofInt 255), .ref 166] S R Q
            refine w_iast rfl rfl (by omega) (by omega) ?_
            refine w_st rfl (fun _ => rfl) ?_
            refine w_st rfl (fun _ => rfl) ?_
            show w_T L xs (d + 4) m_X12_fair 57 [(3, .int ((Int32.ofInt (m : Int)) + Int32.ofInt 1)), (4, .int (S 100 m &&& Int32.ofInt 255)), (2, .int nn), (0, .ref 100), (1, .int sI)] [] (v_ur S 165 (upd (S 165) (S 100 m &&& Int32.ofInt 255).toInt.toNat (S 152 m))) R Q
            rw [w_inc]
            exact K _ _ (w_TbR hT (a := 165) rfl (by omega) gb.2) (w_Op_ur (f1 _) hO) (v_Fr_ur _ _ _ (c1 _ (by omega))) (Or.inr (by omega))
          · refine w_st rfl (fun _ => rfl) ?_
            show w_T L xs (d + 4) m_X12_fair 109 [(4, .int (S 100 m &&& Int32.ofInt 255)), (3, .int (Int32.ofInt (m : Int))), (2, .int nn), (0, .ref 100), (1, .int sI)] [.int (Int32.ofInt (-2))] S R Q
            refine w_ret rfl rfl ?_
            exact hq S _ hT hO (v_Fr_rf _ _ _)
    · refine w_st rfl (fun _ => rfl) ?_
      refine w_st rfl (fun _ => rfl) ?_
      refine w_st rfl (fun _ => rfl) ?_
      show w_T L xs (d + 4) m_X12_fair 57 [(3, .int ((Int32.ofInt (m : Int)) + Int32.ofInt 1)), (4, .int (S 100 m &&& Int32.ofInt 255)), (2, .int nn), (0, .ref 100), (1, .int sI)] [] S R Q
      rw [w_inc]
      exact K S _ hT hO (v_Fr_rf _ _ _) (Or.inl (Classical.byContradiction (fun hh => h74 hh)))
theorem h_fB (R : v_Rf) (nn sI : Int32) (hn : nn.toInt ≤ 6) : ∀ (c m : Nat) (S : v_Sf) (b0 : Int32), ((m + c : Nat) : Int) = nn.toInt → v_Tb v_ty S R → v_Op S → (∀ j, j < m → w_okb (S 100 j)) → (∀ (S' : v_Sf) (v : Int32), v_Tb v_ty S' R → v_Op S' → v_Fr [(99, 1, 1), (152, 0, 12), (165, 0, 5)] S R S' R → Q (some (.int v)) S' R) → (∀ (S' : v_Sf), v_Tb v_ty S' R → v_Op S' → v_Fr [(99, 1, 1), (152, 0, 12), (165, 0, 5)] S R S' R → (∀ j : Nat, (j : Int) < nn.toInt → w_okb (S' 100 j)) → w_T L xs (d + 4) m_X12_fair 134 [(4, .int (Int32.ofInt 0)), (3, .int (Int32.ofInt 0)), (2, .int nn), (0, .ref 100), (1, .int sI)] [] S' R Q) → w_T L xs (d + 4) m_X12_fair 57 [(3, .int (Int32.ofInt (m : Int))), (4, .int b0), (2, .int nn), (0, .ref 100), (1, .int sI)] [] S R Q := by
  have ct : ∀ j, v_md [(99, 1, 1), (152, 0, 12), (165, 0, 5)] 100 j j = false := fun j => rfl
  intro c
  induction c with
  | zero =>
    intro m S b0 hc hT hO hb hq K
    have em := w_nat (k := m) (by omega)
    refine w_st rfl (fun _ => rfl) ?_
    refine w_st rfl (fun _ => rfl) ?_
    show w_T L xs (d + 4) m_X12_fair 59 [(3, .int (Int32.ofInt (m : Int))), (4, .int b0), (2, .int nn), (0, .ref 100), (1, .int sI)] [.int nn, .int (Int32.ofInt (m : Int))] S R Q
    refine w_br (P := nn ≤ (Int32.ofInt (m : Int))) rfl (fun _ => rfl) (fun h59 => ?_) (fun h59 => ?_)
    · refine w_st rfl (fun _ => rfl) ?_
      refine w_st rfl (fun _ => rfl) ?_
      refine w_st rfl (fun _ => rfl) ?_
      refine w_st rfl (fun _ => rfl) ?_
      show w_T L xs (d + 4) m_X12_fair 134 [(4, .int (Int32.ofInt 0)), (3, .int (Int32.ofInt 0)), (2, .int nn), (0, .ref 100), (1, .int sI)] [] S R Q
      exact K S hT hO (v_Fr_rf _ _ _) (fun j hj => hb j (by omega))
    · exfalso; rw [q_le32, em] at h59; omega
  | succ c ih =>
    intro m S b0 hc hT hO hb hq K
    refine h_fbB S R nn sI b0 m (by omega) hn hT hO hq (fun S' b' k1 k2 k3 k4 => ?_)
    have e : ∀ j, S' 100 j = S 100 j := fun j => (k3 _ _ (ct j)).1
    refine ih (m + 1) S' b' (by omega) k1 k2 (fun j hj => ?_) (fun S2 v q1 q2 q3 => hq S2 v q1 q2 (v_Fr_tr k3 q3)) (fun S2 q1 q2 q3 q4 => K S2 q1 q2 (v_Fr_tr k3 q3) q4)
    rw [e]
    by_cases h : j = m
    · rw [h]; exact k4
    · exact hb j (by omega)
set_option maxHeartbeats 1000000 in
theorem h_fI (hH : v_Met L xs v_ty v_Op 273 rw_241) (hK : v_Met L xs v_ty v_Op 274 rw_242) (S : v_Sf) (R : v_Rf) (nn sI own : Int32) (o1 : -1 ≤ own.toInt) (o2 : own.toInt ≤ 4) (m : Nat) (hm : m < 6) (hT : v_Tb v_ty S R) (hO : v_Op S) (K : ∀ (h' c' : Int32), w_T L xs (d + 4) m_X12_fair 134 [(4, .int (Int32.ofInt ((m + 1 : Nat) : Int))), (6, .int (h')), (5, .int own), (3, .int (c')), (2, .int nn), (0, .ref 100), (1, .int sI)] [] S R Q) : ∀ (c h : Nat) (cn : Int32), h + c = 5 → w_T L xs (d + 4) m_X12_fair 167 [(6, .int (Int32.ofInt (h : Int))), (5, .int own), (4, .int (Int32.ofInt (m : Int))), (3, .int cn), (2, .int nn), (0, .ref 100), (1, .int sI)] [] S R Q := by
  have em := w_nat (k := m) (by omega)
  have emn : (Int32.ofInt (m : Int)).toInt.toNat = m := by rw [em]; omega
  have e5 : (Int32.ofInt 5).toInt = 5 := by decide
  have tS : v_TbC S R 152 _ := hT 152 _ rfl
  have tK : v_TbC S R 165 _ := hT 165 _ rfl
  have gb : 0 ≤ (S 152 m).toInt ∧ (S 152 m).toInt ≤ 11 := tS _ (by omega)
  intro c
  induction c with
  | zero =>
    intro h cn hh
    obtain rfl : h = 5 := by omega
    refine w_st rfl (fun _ => rfl) ?_
    refine w_st rfl (fun _ => rfl) ?_
    show w_T L xs (d + 4) m_X12_fair 170 [(6, .int (Int32.ofInt ((5 : Nat) : Int))), (5, .int own), (4, .int (Int32.ofInt (m : Int))), (3, .int cn), (2, .int nn), (0, .ref 100), (1, .int sI)] [.int (Int32.ofInt 5), .int (Int32.ofInt ((5 : Nat) : Int))] S R Q
    refine w_st rfl (fun _ => rfl) ?_
    refine w_st rfl (fun _ => rfl) ?_
    refine w_st rfl (fun _ => rfl) ?_
    show w_T L xs (d + 4) m_X12_fair 134 [(4, .int ((Int32.ofInt (m : Int)) + Int32.ofInt 1)), (6, .int (Int32.ofInt ((5 : Nat) : Int))), (5, .int own), (3, .int cn), (2, .int nn), (0, .ref 100), (1, .int sI)] [] S R Q
    rw [w_inc]
    exact K _ _
  | succ c ih =>
    intro h cn hh
    have eh := w_nat (k := h) (by omega)
    have ehn : (Int32.ofInt (h : Int)).toInt.toNat = h := by rw [eh]; omega
    have kb : -1 ≤ (S 165 h).toInt ∧ (S 165 h).toInt ≤ 11 := tK h (by omega)
    refine w_st rfl (fun _ => rfl) ?_
    refine w_st rfl (fun _ => rfl) ?_
    show w_T L xs (d + 4) m_X12_fair 170 [(6, .int (Int32.ofInt (h : Int))), (5, .int own), (4, .int (Int32.ofInt (m : Int))), (3, .int cn), (2, .int nn), (0, .ref 100), (1, .int sI)] [.int (Int32.ofInt 5), .int (Int32.ofInt (h : Int))] S R Q
    refine w_br (P := (Int32.ofInt 5) ≤ (Int32.ofInt (h : Int))) rfl (fun _ => rfl) (fun h170 => ?_) (fun h170 => ?_)
    · exfalso; rw [q_le32, e5, eh] at h170; omega
    · refine w_st rfl (fun _ => rfl) ?_
      show w_T L xs (d + 4) m_X12_fair 174 [(6, .int (Int32.ofInt (h : Int))), (5, .int own), (4, .int (Int32.ofInt (m : Int))), (3, .int cn), (2, .int nn), (0, .ref 100), (1, .int sI)] [.ref 100] S R Q
      refine w_getr rfl v_tyM rfl ?_
      refine w_st rfl (fun _ => rfl) ?_
      show w_T L xs (d + 4) m_X12_fair 179 [(6, .int (Int32.ofInt (h : Int))), (5, .int own), (4, .int (Int32.ofInt (m : Int))), (3, .int cn), (2, .int nn), (0, .ref 100), (1, .int sI)] [.int (Int32.ofInt (h : Int)), .ref 163] S R Q
      refine w_bald rfl rfl (by decide) (by rw [eh]; omega) (by rw [eh]; omega) ?_
      show w_T L xs (d + 4) m_X12_fair 180 [(6, .int (Int32.ofInt (h : Int))), (5, .int own), (4, .int (Int32.ofInt (m : Int))), (3, .int cn), (2, .int nn), (0, .ref 100), (1, .int sI)] [.int (S 162 (Int32.ofInt (h : Int)).toInt.toNat)] S R Q
      refine w_br (P := (S 162 (Int32.ofInt (h : Int)).toInt.toNat) = 0) rfl (fun _ => rfl) (fun h180 => ?_) (fun h180 => ?_)
      · refine w_st rfl (fun _ => rfl) ?_
        refine w_st rfl (fun _ => rfl) ?_
        show w_T L xs (d + 4) m_X12_fair 167 [(6, .int ((Int32.ofInt (h : Int)) + Int32.ofInt 1)), (5, .int own), (4, .int (Int32.ofInt (m : Int))), (3, .int cn), (2, .int nn), (0, .ref 100), (1, .int sI)] [] S R Q
        rw [w_inc]
        exact ih (h + 1) _ (by omega)
      · refine w_st rfl (fun _ => rfl) ?_
        refine w_st rfl (fun _ => rfl) ?_
        show w_T L xs (d + 4) m_X12_fair 187 [(6, .int (Int32.ofInt (h : Int))), (5, .int own), (4, .int (Int32.ofInt (m : Int))), (3, .int cn), (2, .int nn), (0, .ref 100), (1, .int sI)] [.int own, .int (Int32.ofInt (h : Int))] S R Q
        refine w_br (P := (Int32.ofInt (h : Int)) = own) rfl (fun _ => rfl) (fun h187 => ?_) (fun h187 => ?_)
        · refine w_st rfl (fun _ => rfl) ?_
          refine w_st rfl (fun _ => rfl) ?_
          show w_T L xs (d + 4) m_X12_fair 167 [(6, .int ((Int32.ofInt (h : Int)) + Int32.ofInt 1)), (5, .int own), (4, .int (Int32.ofInt (m : Int))), (3, .int cn), (2, .int nn), (0, .ref 100), (1, .int sI)] [] S R Q
          rw [w_inc]
          exact ih (h + 1) _ (by omega)
        · refine w_st rfl (fun _ => rfl) ?_
          refine w_st rfl (fun _ => rfl) ?_
          refine w_st rfl (fun _ => rfl) ?_
          show w_T L xs (d + 4) m_X12_fair 195 [(6, .int (Int32.ofInt (h : Int))), (5, .int own), (4, .int (Int32.ofInt (m : Int))), (3, .int cn), (2, .int nn), (0, .ref 100), (1, .int sI)] [.int own, .int (Int32.ofInt (h : Int)), .ref 100] S R Q
          refine w_cv rfl (by decide) mt_X12_isHigher v_tyM rfl rfl rfl (Nat.le_of_ble_eq_true rfl) (Nat.le_of_ble_eq_true rfl) (Nat.le_of_ble_eq_true rfl) ?_
          show w_T L xs _ m_X12_isHigher 0 (lv_args 0 [.ref 100, .int (Int32.ofInt (h : Int)), .int own]) [] S R _
          refine w_met hH (Nat.zero_le _) mt_X12_isHigher ⟨rfl, ⟨_, rfl, by rw [eh]; show (0 : Int) ≤ _; omega, by rw [eh]; show _ ≤ (4 : Int); omega⟩, ⟨_, rfl, o1, o2⟩, trivial⟩ hT hO (fun r S1 R1 hT1 hO1 hr hF => ?_)
          obtain ⟨u, hr, -, -⟩ := hr
          subst hr
          obtain ⟨rfl, rfl⟩ := v_Fr_nil hF
          show w_T L xs (d + 4) m_X12_fair 198 [(6, .int (Int32.ofInt (h : Int))), (5, .int own), (4, .int (Int32.ofInt (m : Int))), (3, .int cn), (2, .int nn), (0, .ref 100), (1, .int sI)] [.int u] S R Q
          refine w_br (P := u = 0) rfl (fun _ => rfl) (fun h198 => ?_) (fun h198 => ?_)
          · refine w_st rfl (fun _ => rfl) ?_
            refine w_st rfl (fun _ => rfl) ?_
            show w_T L xs (d + 4) m_X12_fair 167 [(6, .int ((Int32.ofInt (h : Int)) + Int32.ofInt 1)), (5, .int own), (4, .int (Int32.ofInt (m : Int))), (3, .int cn), (2, .int nn), (0, .ref 100), (1, .int sI)] [] S R Q
            rw [w_inc]
            exact ih (h + 1) _ (by omega)
          · refine w_st rfl (fun _ => rfl) ?_
            refine w_st rfl (fun _ => rfl) ?_
            refine w_st rfl (fun _ => rfl) ?_
            show w_T L xs (d + 4) m_X12_fair 205 [(6, .int (Int32.ofInt (h : Int))), (5, .int own), (4, .int (Int32.ofInt (m : Int))), (3, .int cn), (2, .int nn), (0, .ref 100), (1, .int sI)] [.ref 100, .int (Int32.ofInt (h : Int)), .ref 100] S R Q
            refine w_getr rfl v_tyM rfl ?_
            refine w_st rfl (fun _ => rfl) ?_
            show w_T L xs (d + 4) m_X12_fair 210 [(6, .int (Int32.ofInt (h : Int))), (5, .int own), (4, .int (Int32.ofInt (m : Int))), (3, .int cn), (2, .int nn), (0, .ref 100), (1, .int sI)] [.int (Int32.ofInt (m : Int)), .ref 153, .int (Int32.ofInt (h : Int)), .ref 100] S R Q
            refine w_iald rfl rfl (by rw [em]; omega) (by rw [em]; omega) ?_
            rw [emn]
            refine w_st rfl (fun _ => rfl) ?_
            show w_T L xs (d + 4) m_X12_fair 212 [(6, .int (Int32.ofInt (h : Int))), (5, .int own), (4, .int (Int32.ofInt (m : Int))), (3, .int cn), (2, .int nn), (0, .ref 100), (1, .int sI)] [.ref 100, .int (S 152 m), .int (Int32.ofInt (h : Int)), .ref 100] S R Q
            refine w_getr rfl v_tyM rfl ?_
            refine w_st rfl (fun _ => rfl) ?_
            show w_T L xs (d + 4) m_X12_fair 217 [(6, .int (Int32.ofInt (h : Int))), (5, .int own), (4, .int (Int32.ofInt (m : Int))), (3, .int cn), (2, .int nn), (0, .ref 100), (1, .int sI)] [.int (Int32.ofInt (h : Int)), .ref 166, .int (S 152 m), .int (Int32.ofInt (h : Int)), .ref 100] S R Q
            refine w_iald rfl rfl (by rw [eh]; omega) (by rw [eh]; omega) ?_
            rw [ehn]
            show w_T L xs (d + 4) m_X12_fair 218 [(6, .int (Int32.ofInt (h : Int))), (5, .int own), (4, .int (Int32.ofInt (m : Int))), (3, .int cn), (2, .int nn), (0, .ref 100), (1, .int sI)] [.int (S 165 h), .int (S 152 m), .int (Int32.ofInt (h : Int)), .ref 100] S R Q
            refine w_cv rfl (by decide) mt_X12_isLiked v_tyM rfl rfl rfl (Nat.le_of_ble_eq_true rfl) (Nat.le_of_ble_eq_true rfl) (Nat.le_of_ble_eq_true rfl) ?_
            show w_T L xs _ m_X12_isLiked 0 (lv_args 0 [.ref 100, .int (Int32.ofInt (h : Int)), .int (S 152 m), .int (S 165 h)]) [] S R _
            refine w_met hK (Nat.le_of_ble_eq_true rfl) mt_X12_isLiked ⟨rfl, ⟨_, rfl, by rw [eh]; show (0 : Int) ≤ _; omega, by rw [eh]; show _ ≤ (4 : Int); omega⟩, ⟨_, rfl, gb.1, gb.2⟩, ⟨_, rfl, kb.1, kb.2⟩, trivial⟩ hT hO (fun r S1 R1 hT1 hO1 hr hF => ?_)
            obtain ⟨u2, hr, -, -⟩ := hr
            subst hr
            obtain ⟨rfl, rfl⟩ := v_Fr_nil hF
            show w_T L xs (d + 4) m_X12_fair 221 [(6, .int (Int32.ofInt (h : Int))), (5, .int own), (4, .int (Int32.ofInt (m : Int))), (3, .int cn), (2, .int nn), (0, .ref 100), (1, .int sI)] [.int u2] S R Q
            refine w_br (P := u2 = 0) rfl (fun _ => rfl) (fun h221 => ?_) (fun h221 => ?_)
            · refine w_st rfl (fun _ => rfl) ?_
              refine w_st rfl (fun _ => rfl) ?_
              show w_T L xs (d + 4) m_X12_fair 167 [(6, .int ((Int32.ofInt (h : Int)) + Int32.ofInt 1)), (5, .int own), (4, .int (Int32.ofInt (m : Int))), (3, .int cn), (2, .int nn), (0, .ref 100), (1, .int sI)] [] S R Q
              rw [w_inc]
              exact ih (h + 1) _ (by omega)
            · refine w_st rfl (fun _ => rfl) ?_
              refine w_st rfl (fun _ => rfl) ?_
              refine w_st rfl (fun _ => rfl) ?_
              show w_T L xs (d + 4) m_X12_fair 167 [(6, .int ((Int32.ofInt (h : Int)) + Int32.ofInt 1)), (3, .int (cn + Int32.ofInt 1)), (5, .int own), (4, .int (Int32.ofInt (m : Int))), (2, .int nn), (0, .ref 100), (1, .int sI)] [] S R Q
              refine w_lc (b := [(6, .int ((Int32.ofInt (h : Int)) + Int32.ofInt 1)), (5, .int own), (4, .int (Int32.ofInt (m : Int))), (3, .int (cn + Int32.ofInt 1)), (2, .int nn), (0, .ref 100), (1, .int sI)]) (show ([6, 3, 5, 4, 2, 0, 1] : List Nat).Nodup by decide) (show ([6, 5, 4, 3, 2, 0, 1] : List Nat).Nodup by decide) (fun i => match i with | 0 => rfl | 1 => rfl | 2 => rfl | 3 => rfl | 4 => rfl | 5 => rfl | 6 => rfl | _ + 7 => rfl) ?_
              rw [w_inc]
              exact ih (h + 1) _ (by omega)
set_option maxHeartbeats 1000000 in
theorem h_foA (hH : v_Met L xs v_ty v_Op 273 rw_241) (hK : v_Met L xs v_ty v_Op 274 rw_242) (S : v_Sf) (R : v_Rf) (nn sI cn h0 w0 : Int32) (m : Nat) (hm : (m : Int) < nn.toInt) (hn : nn.toInt ≤ 6) (hT : v_Tb v_ty S R) (hO : v_Op S) (hb : w_okb (S 100 m)) (K : ∀ (h' o' c' : Int32), w_T L xs (d + 4) m_X12_fair 134 [(4, .int (Int32.ofInt ((m + 1 : Nat) : Int))), (6, .int (h')), (5, .int (o')), (3, .int (c')), (2, .int nn), (0, .ref 100), (1, .int sI)] [] S R Q) : w_T L xs (d + 4) m_X12_fair 134 [(4, .int (Int32.ofInt (m : Int))), (3, .int cn), (2, .int nn), (0, .ref 100), (1, .int sI)] [] S R Q := by
  have em := w_nat (k := m) (by omega)
  have emn : (Int32.ofInt (m : Int)).toInt.toNat = m := by rw [em]; omega
  have bb := w_b255 (S 100 m)
  refine w_st rfl (fun _ => rfl) ?_
  refine w_st rfl (fun _ => rfl) ?_
  show w_T L xs (d + 4) m_X12_fair 137 [(4, .int (Int32.ofInt (m : Int))), (3, .int cn), (2, .int nn), (0, .ref 100), (1, .int sI)] [.int nn, .int (Int32.ofInt (m : Int))] S R Q
  refine w_br (P := nn ≤ (Int32.ofInt (m : Int))) rfl (fun _ => rfl) (fun h137 => ?_) (fun h137 => ?_)
  · exfalso; rw [q_le32, em] at h137; omega
  · refine w_st rfl (fun _ => rfl) ?_
    refine w_st rfl (fun _ => rfl) ?_
    show w_T L xs (d + 4) m_X12_fair 143 [(4, .int (Int32.ofInt (m : Int))), (3, .int cn), (2, .int nn), (0, .ref 100), (1, .int sI)] [.int (Int32.ofInt (m : Int)), .ref 100] S R Q
    refine w_cv rfl (by decide) mt_X12_byteAt v_tyM rfl rfl rfl (Nat.le_of_ble_eq_true rfl) (Nat.le_of_ble_eq_true rfl) (Nat.le_of_ble_eq_true rfl) ?_
    show w_T L xs _ m_X12_byteAt 0 (lv_args 0 [.ref 100, .int (Int32.ofInt (m : Int))]) [] S R _
    refine h_byte _ _ _ (by rw [em]; omega) (by rw [em]; omega) ?_
    rw [emn]
    refine w_st rfl (fun _ => rfl) ?_
    show w_T L xs (d + 4) m_X12_fair 149 [(4, .int (Int32.ofInt (m : Int))), (3, .int cn), (2, .int nn), (0, .ref 100), (1, .int sI)] [.int (Int32.ofInt 255), .int (S 100 m &&& Int32.ofInt 255)] S R Q
    refine w_br (P := ¬ (S 100 m &&& Int32.ofInt 255) = (Int32.ofInt 255)) rfl (fun _ => rfl) (fun h149 => ?_) (fun h149 => ?_)
    · have b4 : (S 100 m &&& Int32.ofInt 255).toInt ≤ 4 := hb.resolve_left (fun e => h149 e)
      have bb' : -1 ≤ (S 100 m &&& Int32.ofInt 255).toInt := by omega
      refine w_st rfl (fun _ => rfl) ?_
      refine w_st rfl (fun _ => rfl) ?_
      show w_T L xs (d + 4) m_X12_fair 159 [(4, .int (Int32.ofInt (m : Int))), (3, .int cn), (2, .int nn), (0, .ref 100), (1, .int sI)] [.int (Int32.ofInt (m : Int)), .ref 100] S R Q
      refine w_cv rfl (by decide) mt_X12_byteAt v_tyM rfl rfl rfl (Nat.le_of_ble_eq_true rfl) (Nat.le_of_ble_eq_true rfl) (Nat.le_of_ble_eq_true rfl) ?_
      show w_T L xs _ m_X12_byteAt 0 (lv_args 0 [.ref 100, .int (Int32.ofInt (m : Int))]) [] S R _
      refine h_byte _ _ _ (by rw [em]; omega) (by rw [em]; omega) ?_
      rw [emn]
      refine w_st rfl (fun _ => rfl) ?_
      refine w_st rfl (fun _ => rfl) ?_
      refine w_st rfl (fun _ => rfl) ?_
      show w_T L xs (d + 4) m_X12_fair 167 [(6, .int (Int32.ofInt 0)), (5, .int (S 100 m &&& Int32.ofInt 255)), (4, .int (Int32.ofInt (m : Int))), (3, .int cn), (2, .int nn), (0, .ref 100), (1, .int sI)] [] S R Q
      exact h_fI hH hK S R nn sI _ bb' b4 m (by omega) hT hO (fun h' c' => K h' _ c') 5 0 _ rfl
    · refine w_st rfl (fun _ => rfl) ?_
      refine w_st rfl (fun _ => rfl) ?_
      refine w_st rfl (fun _ => rfl) ?_
      refine w_st rfl (fun _ => rfl) ?_
      refine w_st rfl (fun _ => rfl) ?_
      show w_T L xs (d + 4) m_X12_fair 167 [(6, .int (Int32.ofInt 0)), (5, .int (Int32.ofInt (-1))), (4, .int (Int32.ofInt (m : Int))), (3, .int cn), (2, .int nn), (0, .ref 100), (1, .int sI)] [] S R Q
      exact h_fI hH hK S R nn sI _ (by decide) (by decide) m (by omega) hT hO (fun h' c' => K h' _ c') 5 0 _ rfl
set_option maxHeartbeats 1000000 in
theorem h_foB (hH : v_Met L xs v_ty v_Op 273 rw_241) (hK : v_Met L xs v_ty v_Op 274 rw_242) (S : v_Sf) (R : v_Rf) (nn sI cn h0 w0 : Int32) (m : Nat) (hm : (m : Int) < nn.toInt) (hn : nn.toInt ≤ 6) (hT : v_Tb v_ty S R) (hO : v_Op S) (hb : w_okb (S 100 m)) (K : ∀ (h' o' c' : Int32), w_T L xs (d + 4) m_X12_fair 134 [(4, .int (Int32.ofInt ((m + 1 : Nat) : Int))), (6, .int (h')), (5, .int (o')), (3, .int (c')), (2, .int nn), (0, .ref 100), (1, .int sI)] [] S R Q) : w_T L xs (d + 4) m_X12_fair 134 [(4, .int (Int32.ofInt (m : Int))), (6, .int h0), (5, .int w0), (3, .int cn), (2, .int nn), (0, .ref 100), (1, .int sI)] [] S R Q := by
  have em := w_nat (k := m) (by omega)
  have emn : (Int32.ofInt (m : Int)).toInt.toNat = m := by rw [em]; omega
  have bb := w_b255 (S 100 m)
  refine w_st rfl (fun _ => rfl) ?_
  refine w_st rfl (fun _ => rfl) ?_
  show w_T L xs (d + 4) m_X12_fair 137 [(4, .int (Int32.ofInt (m : Int))), (6, .int h0), (5, .int w0), (3, .int cn), (2, .int nn), (0, .ref 100), (1, .int sI)] [.int nn, .int (Int32.ofInt (m : Int))] S R Q
  refine w_br (P := nn ≤ (Int32.ofInt (m : Int))) rfl (fun _ => rfl) (fun h137 => ?_) (fun h137 => ?_)
  · exfalso; rw [q_le32, em] at h137; omega
  · refine w_st rfl (fun _ => rfl) ?_
    refine w_st rfl (fun _ => rfl) ?_
    show w_T L xs (d + 4) m_X12_fair 143 [(4, .int (Int32.ofInt (m : Int))), (6, .int h0), (5, .int w0), (3, .int cn), (2, .int nn), (0, .ref 100), (1, .int sI)] [.int (Int32.ofInt (m : Int)), .ref 100] S R Q
    refine w_cv rfl (by decide) mt_X12_byteAt v_tyM rfl rfl rfl (Nat.le_of_ble_eq_true rfl) (Nat.le_of_ble_eq_true rfl) (Nat.le_of_ble_eq_true rfl) ?_
    show w_T L xs _ m_X12_byteAt 0 (lv_args 0 [.ref 100, .int (Int32.ofInt (m : Int))]) [] S R _
    refine h_byte _ _ _ (by rw [em]; omega) (by rw [em]; omega) ?_
    rw [emn]
    refine w_st rfl (fun _ => rfl) ?_
    show w_T L xs (d + 4) m_X12_fair 149 [(4, .int (Int32.ofInt (m : Int))), (6, .int h0), (5, .int w0), (3, .int cn), (2, .int nn), (0, .ref 100), (1, .int sI)] [.int (Int32.ofInt 255), .int (S 100 m &&& Int32.ofInt 255)] S R Q
    refine w_br (P := ¬ (S 100 m &&& Int32.ofInt 255) = (Int32.ofInt 255)) rfl (fun _ => rfl) (fun h149 => ?_) (fun h149 => ?_)
    · have b4 : (S 100 m &&& Int32.ofInt 255).toInt ≤ 4 := hb.resolve_left (fun e => h149 e)
      have bb' : -1 ≤ (S 100 m &&& Int32.ofInt 255).toInt := by omega
      refine w_st rfl (fun _ => rfl) ?_
      refine w_st rfl (fun _ => rfl) ?_
      show w_T L xs (d + 4) m_X12_fair 159 [(4, .int (Int32.ofInt (m : Int))), (6, .int h0), (5, .int w0), (3, .int cn), (2, .int nn), (0, .ref 100), (1, .int sI)] [.int (Int32.ofInt (m : Int)), .ref 100] S R Q
      refine w_cv rfl (by decide) mt_X12_byteAt v_tyM rfl rfl rfl (Nat.le_of_ble_eq_true rfl) (Nat.le_of_ble_eq_true rfl) (Nat.le_of_ble_eq_true rfl) ?_
      show w_T L xs _ m_X12_byteAt 0 (lv_args 0 [.ref 100, .int (Int32.ofInt (m : Int))]) [] S R _
      refine h_byte _ _ _ (by rw [em]; omega) (by rw [em]; omega) ?_
      rw [emn]
      refine w_st rfl (fun _ => rfl) ?_
      refine w_st rfl (fun _ => rfl) ?_
      refine w_st rfl (fun _ => rfl) ?_
      show w_T L xs (d + 4) m_X12_fair 167 [(6, .int (Int32.ofInt 0)), (5, .int (S 100 m &&& Int32.ofInt 255)), (4, .int (Int32.ofInt (m : Int))), (3, .int cn), (2, .int nn), (0, .ref 100), (1, .int sI)] [] S R Q
      exact h_fI hH hK S R nn sI _ bb' b4 m (by omega) hT hO (fun h' c' => K h' _ c') 5 0 _ rfl
    · refine w_st rfl (fun _ => rfl) ?_
      refine w_st rfl (fun _ => rfl) ?_
      refine w_st rfl (fun _ => rfl) ?_
      refine w_st rfl (fun _ => rfl) ?_
      refine w_st rfl (fun _ => rfl) ?_
      show w_T L xs (d + 4) m_X12_fair 167 [(6, .int (Int32.ofInt 0)), (5, .int (Int32.ofInt (-1))), (4, .int (Int32.ofInt (m : Int))), (3, .int cn), (2, .int nn), (0, .ref 100), (1, .int sI)] [] S R Q
      exact h_fI hH hK S R nn sI _ (by decide) (by decide) m (by omega) hT hO (fun h' c' => K h' _ c') 5 0 _ rfl
theorem h_fO (hH : v_Met L xs v_ty v_Op 273 rw_241) (hK : v_Met L xs v_ty v_Op 274 rw_242) (S : v_Sf) (R : v_Rf) (nn sI : Int32) (hn : nn.toInt ≤ 6) (hT : v_Tb v_ty S R) (hO : v_Op S) (hb : ∀ j : Nat, (j : Int) < nn.toInt → w_okb (S 100 j)) (hq : ∀ v : Int32, Q (some (.int v)) S R) : ∀ (c m : Nat) (h0 w0 cn : Int32), ((m + c : Nat) : Int) = nn.toInt → w_T L xs (d + 4) m_X12_fair 134 [(4, .int (Int32.ofInt (m : Int))), (6, .int h0), (5, .int w0), (3, .int cn), (2, .int nn), (0, .ref 100), (1, .int sI)] [] S R Q := by
  intro c
  induction c with
  | zero =>
    intro m h0 w0 cn hc
    have em := w_nat (k := m) (by omega)
    refine w_st rfl (fun _ => rfl) ?_
    refine w_st rfl (fun _ => rfl) ?_
    show w_T L xs (d + 4) m_X12_fair 137 [(4, .int (Int32.ofInt (m : Int))), (6, .int h0), (5, .int w0), (3, .int cn), (2, .int nn), (0, .ref 100), (1, .int sI)] [.int nn, .int (Int32.ofInt (m : Int))] S R Q
    refine w_br (P := nn ≤ (Int32.ofInt (m : Int))) rfl (fun _ => rfl) (fun h137 => ?_) (fun h137 => ?_)
    · refine w_st rfl (fun _ => rfl) ?_
      show w_T L xs (d + 4) m_X12_fair 240 [(4, .int (Int32.ofInt (m : Int))), (6, .int h0), (5, .int w0), (3, .int cn), (2, .int nn), (0, .ref 100), (1, .int sI)] [.int cn] S R Q
      refine w_ret rfl rfl ?_
      exact hq _
    · exfalso; rw [q_le32, em] at h137; omega
  | succ c ih =>
    intro m h0 w0 cn hc
    exact h_foB hH hK S R nn sI cn h0 w0 m (by omega) hn hT hO (hb m (by omega)) (fun h' o' c' => ih (m + 1) h' o' c' (by omega))
theorem hr_X12_fair {L : Nat} {xs : Nat → Int32} (ih : ∀ x, ∀ w ∈ v_rw x, w.1 < rw_247.1 → v_Met L xs v_ty v_Op x w) : v_Met L xs v_ty v_Op 279 rw_247 := by
  have hH := ih 273 rw_241 (List.mem_of_getElem? (i := 0) rfl) (Nat.le_of_ble_eq_true rfl)
  have hK := ih 274 rw_242 (List.mem_of_getElem? (i := 0) rfl) (Nat.le_of_ble_eq_true rfl)
  have hG := ih 249 rw_222 (List.mem_of_getElem? (i := 0) rfl) (Nat.le_of_ble_eq_true rfl)
  intro M hM ac S R ha hT hO
  rw [mt_X12_fair] at hM
  cases hM
  match ac, ha with
  | [r0, w1], ⟨h0, ⟨sI, hg, _, _⟩, _⟩ =>
  have h0 : r0 = .ref 100 := h0
  subst h0 hg
  show w_T L xs 6 m_X12_fair 0 (lv_args 0 [.ref 100, .int sI]) [] S R (fun r S' R' => v_Tb v_ty S' R' ∧ v_Op S' ∧ v_rk1 (some ((-2147483648), 2147483647)) r ∧ v_Fr [(99, 1, 1), (152, 0, 12), (165, 0, 5)] S R S' R')
  generalize hQ : (fun (r : Option Value) (S' : v_Sf) (R' : v_Rf) => v_Tb v_ty S' R' ∧ v_Op S' ∧ v_rk1 (some ((-2147483648), 2147483647)) r ∧ v_Fr [(99, 1, 1), (152, 0, 12), (165, 0, 5)] S R S' R') = Q
  have hq : ∀ (S' : v_Sf) (v : Int32), v_Tb v_ty S' R → v_Op S' → v_Fr [(99, 1, 1), (152, 0, 12), (165, 0, 5)] S R S' R → Q (some (.int v)) S' R := fun S' v a1 a2 a3 => by
    rw [← hQ]
    exact ⟨a1, a2, ⟨v, rfl, (q_rng v).1, (q_rng v).2⟩, a3⟩
  have c3 : ∀ j, j ≤ 12 → v_md [(99, 1, 1), (152, 0, 12), (165, 0, 5)] 152 j j = true := fun j hj => v_md_mono (lo := 0) (hi := 12) (by decide +kernel) (Nat.zero_le _) hj
  have f3 : ∀ j, v_frz 152 j j = false := fun j => rfl
  refine w_st rfl (fun _ => rfl) ?_
  refine w_st rfl (fun _ => rfl) ?_
  refine w_st rfl (fun _ => rfl) ?_
  refine w_st rfl (fun _ => rfl) ?_
  show w_T L xs 6 m_X12_fair 5 [(0, .ref 100), (1, .int sI)] [.int (Int32.ofInt 6), .int (Int32.ofInt 1), .int sI, .ref 100] S R Q
  refine w_cv rfl (by decide) mt_X12_areGusts v_tyM rfl rfl rfl (Nat.le_of_ble_eq_true rfl) (Nat.le_of_ble_eq_true rfl) (Nat.le_of_ble_eq_true rfl) ?_
  show w_T L xs _ m_X12_areGusts 0 (lv_args 0 [.ref 100, .int sI, .int (Int32.ofInt 1), .int (Int32.ofInt 6)]) [] S R _
  refine h_areGusts (d := 4) hG S R sI _ _ hT hO (fun u hu => ?_)
  show w_T L xs 6 m_X12_fair 8 [(0, .ref 100), (1, .int sI)] [.int u] S R Q
  refine w_br (P := u = 0) rfl (fun _ => rfl) (fun h8 => ?_) (fun h8 => ?_)
  · refine w_st rfl (fun _ => rfl) ?_
    show w_T L xs 6 m_X12_fair 23 [(0, .ref 100), (1, .int sI)] [.int (Int32.ofInt (-1))] S R Q
    refine w_ret rfl rfl ?_
    exact hq S _ hT hO (v_Fr_rf _ _ _)
  · have hu := hu.resolve_left (fun e => h8 e)
    refine w_st rfl (fun _ => rfl) ?_
    show w_T L xs 6 m_X12_fair 12 [(0, .ref 100), (1, .int sI)] [.int sI] S R Q
    refine w_cs rfl (by decide) mt_X12_sizeOf (fun _ => rfl) (Nat.le_of_ble_eq_true rfl) (Nat.le_of_ble_eq_true rfl) ?_
    show w_T L xs _ m_X12_sizeOf 0 (lv_args 0 [.int sI]) [] S R _
    refine h_sizeOf _ ?_
    refine w_st rfl (fun _ => rfl) ?_
    show w_T L xs 6 m_X12_fair 16 [(0, .ref 100), (1, .int sI)] [.ref 100, .int (v_pop sI)] S R Q
    refine w_get rfl v_tyM rfl ?_
    show w_T L xs 6 m_X12_fair 19 [(0, .ref 100), (1, .int sI)] [.int (S 99 1), .int (v_pop sI)] S R Q
    refine w_br (P := (v_pop sI) ≤ (S 99 1)) rfl (fun _ => rfl) (fun h19 => ?_) (fun h19 => ?_)
    · refine w_st rfl (fun _ => rfl) ?_
      refine w_st rfl (fun _ => rfl) ?_
      show w_T L xs 6 m_X12_fair 26 [(0, .ref 100), (1, .int sI)] [.int sI, .ref 100] S R Q
      refine w_cv rfl (by decide) mt_X12_takesSome v_tyM rfl rfl rfl (Nat.le_of_ble_eq_true rfl) (Nat.le_of_ble_eq_true rfl) (Nat.le_of_ble_eq_true rfl) ?_
      show w_T L xs _ m_X12_takesSome 0 (lv_args 0 [.ref 100, .int sI]) [] S R _
      refine h_X12_takesSome (d := 4) sI S (by omega) (by omega) hT (fun S1 hT1 hS1 => ?_)
      have hO1 : v_Op S1 := v_fz_ok.1 S S1 (fun a j hf => hS1 a j (fun e => by rw [e.1, f3] at hf; cases hf)) hO
      have hF1 : v_Fr [(99, 1, 1), (152, 0, 12), (165, 0, 5)] S R S1 R := fun a j hm => ⟨hS1 a j (fun e => by rw [e.1, c3 j e.2] at hm; cases hm), rfl⟩
      refine w_st rfl (fun _ => rfl) ?_
      refine w_st rfl (fun _ => rfl) ?_
      refine w_st rfl (fun _ => rfl) ?_
      show w_T L xs 6 m_X12_fair 32 [(2, .int (v_pop sI)), (0, .ref 100), (1, .int sI)] [.int (Int32.ofInt 0), .ref 100] S1 R Q
      refine w_put rfl v_tyM rfl rfl rfl ?_
      have hT2 : v_Tb v_ty (v_ur S1 99 (upd (S1 99) 1 (Int32.ofInt 0))) R := w_TbF hT1 v_tyM rfl (by decide) (by decide)
      have hO2 : v_Op (v_ur S1 99 (upd (S1 99) 1 (Int32.ofInt 0))) := w_Op_ur rfl hO1
      have hF2 : v_Fr [(99, 1, 1), (152, 0, 12), (165, 0, 5)] S R (v_ur S1 99 (upd (S1 99) 1 (Int32.ofInt 0))) R := v_Fr_tr hF1 (v_Fr_ur _ _ _ (by decide +kernel))
      refine w_st rfl (fun _ => rfl) ?_
      refine w_st rfl (fun _ => rfl) ?_
      show w_T L xs 6 m_X12_fair 37 [(3, .int (Int32.ofInt 0)), (2, .int (v_pop sI)), (0, .ref 100), (1, .int sI)] [] (v_ur S1 99 (upd (S1 99) 1 (Int32.ofInt 0))) R Q
      refine h_fA (d := 2) R _ sI 5 0 _ rfl hT2 hO2 (fun S3 a1 a2 a3 => ?_)
      have hF3 := v_Fr_tr hF2 a3
      have n1 : 1 ≤ (v_pop sI).toInt := hu.2.2.1
      have n2 : (v_pop sI).toInt ≤ 6 := hu.2.2.2
      have hz : ((0 : Nat) : Int) < (v_pop sI).toInt := by omega
      refine h_fbA (d := 2) S3 R _ sI 0 0 hz n2 a1 a2 (fun S4 v q1 q2 q3 => hq S4 v q1 q2 (v_Fr_tr hF3 q3)) (fun S4 b4 k1 k2 k3 k4 => ?_)
      have hF4 := v_Fr_tr hF3 k3
      refine h_fB (d := 2) R _ sI n2 ((v_pop sI).toInt.toNat - 1) 1 S4 b4 (by omega) k1 k2 (fun j hj => ?_) (fun S5 v q1 q2 q3 => hq S5 v q1 q2 (v_Fr_tr hF4 q3)) (fun S5 m1 m2 m3 m4 => ?_)
      · obtain rfl : j = 0 := by omega
        rw [(k3 100 0 rfl).1]
        exact k4
      · refine h_foA (d := 2) hH hK S5 R _ sI _ 0 0 0 hz n2 m1 m2 (m4 0 hz) (fun h1 o1 c1 => ?_)
        exact h_fO (d := 2) hH hK S5 R _ sI n2 m1 m2 m4 (fun v => hq S5 v m1 m2 (v_Fr_tr hF4 m3)) ((v_pop sI).toInt.toNat - 1) 1 h1 o1 c1 (by omega)
    · refine w_st rfl (fun _ => rfl) ?_
      show w_T L xs 6 m_X12_fair 23 [(0, .ref 100), (1, .int sI)] [.int (Int32.ofInt (-1))] S R Q
      refine w_ret rfl rfl ?_
      exact hq S _ hT hO (v_Fr_rf _ _ _)
end FR
end Prt39
section Prt39b
/-! nursed: takesSome below 32, isOrder -/
noncomputable abbrev m_X12_nursed : g_M := (g_cn 12, yX12_nursed, cX12_nursed, 10, (some .int), g_look2 ttX12_nursed)
set_option maxRecDepth 20000 in
theorem mt_X12_nursed : g_mt 288 = some m_X12_nursed := rfl
noncomputable abbrev m_X12_isOrder : g_M := (g_cn 12, yX12_isOrder, cX12_isOrder, 4, (some .boolean), g_look2 ttX12_isOrder)
set_option maxRecDepth 20000 in
theorem mt_X12_isOrder : g_mt 286 = some m_X12_isOrder := rfl
noncomputable abbrev m_X12_toldNurses : g_M := (g_cn 12, yX12_toldNurses, cX12_toldNurses, 3, (some .int), g_look2 ttX12_toldNurses)
set_option maxRecDepth 20000 in
theorem mt_X12_toldNurses : g_mt 287 = some m_X12_toldNurses := rfl
noncomputable abbrev m_X12_placeIn : g_M := (g_cn 12, yX12_placeIn, cX12_placeIn, 2, (some .int), g_look2 ttX12_placeIn)
set_option maxRecDepth 20000 in
theorem mt_X12_placeIn : g_mt 252 = some m_X12_placeIn := rfl
noncomputable abbrev m_X12_opensRow : g_M := (g_cn 12, yX12_opensRow, cX12_opensRow, 6, none, g_look2 ttX12_opensRow)
set_option maxRecDepth 20000 in
theorem mt_X12_opensRow : g_mt 254 = some m_X12_opensRow := rfl
noncomputable abbrev m_X12_keepsRow : g_M := (g_cn 12, yX12_keepsRow, cX12_keepsRow, 3, none, g_look2 ttX12_keepsRow)
set_option maxRecDepth 20000 in
theorem mt_X12_keepsRow : g_mt 255 = some m_X12_keepsRow := rfl
noncomputable abbrev m_X12_powerOf : g_M := (g_cn 12, yX12_powerOf, cX12_powerOf, 4, (some .int), g_look2 ttX12_powerOf)
set_option maxRecDepth 20000 in
theorem mt_X12_powerOf : g_mt 253 = some m_X12_powerOf := rfl
noncomputable abbrev m_X12_falling : g_M := (g_cn 12, yX12_falling, cX12_falling, 3, (some .int), g_look2 ttX12_falling)
set_option maxRecDepth 20000 in
theorem mt_X12_falling : g_mt 204 = some m_X12_falling := rfl
noncomputable abbrev m_X12_isWard : g_M := (g_cn 12, yX12_isWard, cX12_isWard, 1, (some .boolean), g_look2 ttX12_isWard)
set_option maxRecDepth 20000 in
theorem mt_X12_isWard : g_mt 209 = some m_X12_isWard := rfl
section NU
variable {L : Nat} {xs : Nat → Int32} {d : Nat} {Q : Option Value → v_Sf → v_Rf → Prop}
theorem h_ts51 {R : v_Rf} (sI : Int32) (hs : 0 ≤ sI.toInt) (hs5 : sI.toInt < 32) : ∀ (m g : Nat) (S : v_Sf), g + m = 12 → v_Tb v_ty S R → (∀ j, j < v_popN g sI.toInt.toNat → (S 152 j).toInt ≤ 4) → (∀ S', v_Tb v_ty S' R → (∀ a j, ¬ (a = 152 ∧ j ≤ 12) → S' a j = S a j) → (∀ j, j < v_popN 12 sI.toInt.toNat → (S' 152 j).toInt ≤ 4) → Q (some (.int (Int32.ofInt ((v_popN 12 sI.toInt.toNat : Nat) : Int)))) S' R) → w_T L xs (d + 1) m_X12_takesSome 4 [(3, .int (Int32.ofInt (g : Int))), (2, .int (Int32.ofInt ((v_popN g sI.toInt.toNat : Nat) : Int))), (0, .ref 100), (1, .int sI)] [] S R Q := by
  intro m
  induction m with
  | zero =>
    intro g S hg hT hb hq
    have eg := w_nat (k := g) (by omega)
    have e12 : (Int32.ofInt 12).toInt = 12 := by decide
    refine w_st rfl (fun _ => rfl) ?_
    refine w_st rfl (fun _ => rfl) ?_
    show w_T L xs (d + 1) m_X12_takesSome 7 [(3, .int (Int32.ofInt (g : Int))), (2, .int (Int32.ofInt ((v_popN g sI.toInt.toNat : Nat) : Int))), (0, .ref 100), (1, .int sI)] [.int (Int32.ofInt 12), .int (Int32.ofInt (g : Int))] S R Q
    refine w_br (P := (Int32.ofInt 12) ≤ (Int32.ofInt (g : Int))) rfl (fun _ => rfl) (fun h7 => ?_) (fun h7 => ?_)
    · refine w_st rfl (fun _ => rfl) ?_
      show w_T L xs (d + 1) m_X12_takesSome 38 [(3, .int (Int32.ofInt (g : Int))), (2, .int (Int32.ofInt ((v_popN g sI.toInt.toNat : Nat) : Int))), (0, .ref 100), (1, .int sI)] [.int (Int32.ofInt ((v_popN g sI.toInt.toNat : Nat) : Int))] S R Q
      refine w_ret rfl rfl ?_
      have e : g = 12 := by omega
      subst e
      exact hq S hT (fun _ _ _ => rfl) hb
    · exfalso; rw [q_le32, e12, eg] at h7; omega
  | succ m ih =>
    intro g S hg hT hb hq
    have eg := w_nat (k := g) (by omega)
    have e12 : (Int32.ofInt 12).toInt = 12 := by decide
    have hle := v_popN_f g sI.toInt.toNat
    have en := w_nat (k := v_popN g sI.toInt.toNat) (by omega)
    have enn : (Int32.ofInt ((v_popN g sI.toInt.toNat : Nat) : Int)).toInt.toNat = v_popN g sI.toInt.toNat := by rw [en]; omega
    have hps := v_popN_s g sI.toInt.toNat
    have egn : (Int32.ofInt (g : Int)).toInt.toNat = g := by rw [eg]; omega
    have hbit := h_bit sI (Int32.ofInt (g : Int)) hs (by omega) (by omega)
    rw [egn] at hbit
    refine w_st rfl (fun _ => rfl) ?_
    refine w_st rfl (fun _ => rfl) ?_
    show w_T L xs (d + 1) m_X12_takesSome 7 [(3, .int (Int32.ofInt (g : Int))), (2, .int (Int32.ofInt ((v_popN g sI.toInt.toNat : Nat) : Int))), (0, .ref 100), (1, .int sI)] [.int (Int32.ofInt 12), .int (Int32.ofInt (g : Int))] S R Q
    refine w_br (P := (Int32.ofInt 12) ≤ (Int32.ofInt (g : Int))) rfl (fun _ => rfl) (fun h7 => ?_) (fun h7 => ?_)
    · exfalso; rw [q_le32, e12, eg] at h7; omega
    · refine w_st rfl (fun _ => rfl) ?_
      refine w_st rfl (fun _ => rfl) ?_
      show w_T L xs (d + 1) m_X12_takesSome 12 [(3, .int (Int32.ofInt (g : Int))), (2, .int (Int32.ofInt ((v_popN g sI.toInt.toNat : Nat) : Int))), (0, .ref 100), (1, .int sI)] [.int (Int32.ofInt (g : Int)), .int sI] S R Q
      refine w_cs rfl (by decide) mt_X12_has (fun _ => rfl) (Nat.le_of_ble_eq_true rfl) (Nat.le_of_ble_eq_true rfl) ?_
      show w_T L xs _ m_X12_has 0 (lv_args 0 [.int sI, .int (Int32.ofInt (g : Int))]) [] S R _
      refine h_has sI _ ?_
      rw [hbit]
      show w_T L xs (d + 1) m_X12_takesSome 15 [(3, .int (Int32.ofInt (g : Int))), (2, .int (Int32.ofInt ((v_popN g sI.toInt.toNat : Nat) : Int))), (0, .ref 100), (1, .int sI)] [.int (Int32.ofInt ((sI.toInt.toNat / 2 ^ g % 2 : Nat) : Int))] S R Q
      refine w_br (P := ¬ (Int32.ofInt ((sI.toInt.toNat / 2 ^ g % 2 : Nat) : Int)) = 0) rfl (fun _ => rfl) (fun h15 => ?_) (fun h15 => ?_)
      · have hz : sI.toInt.toNat / 2 ^ g % 2 = 1 := by
          have : ¬ sI.toInt.toNat / 2 ^ g % 2 = 0 := fun e => h15 (by rw [e]; rfl)
          omega
        refine w_st rfl (fun _ => rfl) ?_
        show w_T L xs (d + 1) m_X12_takesSome 22 [(3, .int (Int32.ofInt (g : Int))), (2, .int (Int32.ofInt ((v_popN g sI.toInt.toNat : Nat) : Int))), (0, .ref 100), (1, .int sI)] [.ref 100] S R Q
        refine w_getr rfl v_tyM rfl ?_
        refine w_st rfl (fun _ => rfl) ?_
        refine w_st rfl (fun _ => rfl) ?_
        show w_T L xs (d + 1) m_X12_takesSome 27 [(3, .int (Int32.ofInt (g : Int))), (2, .int (Int32.ofInt ((v_popN g sI.toInt.toNat : Nat) : Int))), (0, .ref 100), (1, .int sI)] [.int (Int32.ofInt (g : Int)), .int (Int32.ofInt ((v_popN g sI.toInt.toNat : Nat) : Int)), .ref 153] S R Q
        refine w_iast rfl rfl (by rw [en]; omega) (by rw [en]; omega) ?_
        refine w_st rfl (fun _ => rfl) ?_
        refine w_st rfl (fun _ => rfl) ?_
        refine w_st rfl (fun _ => rfl) ?_
        show w_T L xs (d + 1) m_X12_takesSome 4 [(3, .int ((Int32.ofInt (g : Int)) + Int32.ofInt 1)), (2, .int ((Int32.ofInt ((v_popN g sI.toInt.toNat : Nat) : Int)) + Int32.ofInt 1)), (0, .ref 100), (1, .int sI)] [] (v_ur S 152 (upd (S 152) (Int32.ofInt ((v_popN g sI.toInt.toNat : Nat) : Int)).toInt.toNat (Int32.ofInt (g : Int)))) R Q
        have e1 : Int32.ofInt ((v_popN g sI.toInt.toNat : Nat) : Int) + Int32.ofInt 1 = Int32.ofInt ((v_popN (g + 1) sI.toInt.toNat : Nat) : Int) := by rw [w_inc, hps, hz]
        have g4 : g ≤ 4 := Classical.byContradiction (fun hg4 => by
          have h32 : 2 ^ 5 ≤ 2 ^ g := Nat.pow_le_pow_right (by decide) (by omega)
          have h33 : sI.toInt.toNat / 2 ^ g = 0 := Nat.div_eq_of_lt (by omega)
          rw [h33] at hz
          exact absurd hz (by decide))
        rw [e1, w_inc]
        refine ih (g + 1) _ (by omega) (w_TbR hT (a := 152) rfl (by omega) (by omega)) (fun j hj => ?_) (fun S' h1 h2 h3 => hq S' h1 (fun a j hj => ?_) h3)
        · by_cases hjj : j = v_popN g sI.toInt.toNat
          · rw [hjj, enn, w_urs, eg]; omega
          · rw [w_urn (fun e => hjj (by rw [e.2, enn]))]; exact hb j (by omega)
        · rw [h2 a j hj]
          exact w_urn (fun e => hj ⟨e.1, by rw [e.2, en]; omega⟩)
      · have hz : sI.toInt.toNat / 2 ^ g % 2 = 0 := by
          have h16 := Decidable.of_not_not h15
          have := congrArg Int32.toInt h16
          rw [w_nat (by omega)] at this
          have z0 : (0 : Int32).toInt = 0 := rfl
          omega
        refine w_st rfl (fun _ => rfl) ?_
        refine w_st rfl (fun _ => rfl) ?_
        refine w_st rfl (fun _ => rfl) ?_
        show w_T L xs (d + 1) m_X12_takesSome 4 [(3, .int ((Int32.ofInt (g : Int)) + Int32.ofInt 1)), (2, .int (Int32.ofInt ((v_popN g sI.toInt.toNat : Nat) : Int))), (0, .ref 100), (1, .int sI)] [] S R Q
        have e1 : v_popN g sI.toInt.toNat = v_popN (g + 1) sI.toInt.toNat := by omega
        rw [w_inc]
        have e2 := ih (g + 1) S (by omega) hT (by rw [← e1]; exact hb) hq
        rw [← e1] at e2
        exact e2
theorem h_ts5 {R : v_Rf} (sI : Int32) (S : v_Sf) (hs : 0 ≤ sI.toInt) (hs5 : sI.toInt < 32) (hT : v_Tb v_ty S R) (hq : ∀ S', v_Tb v_ty S' R → (∀ a j, ¬ (a = 152 ∧ j ≤ 12) → S' a j = S a j) → (∀ j : Nat, (j : Int) < (v_pop sI).toInt → (S' 152 j).toInt ≤ 4) → Q (some (.int (v_pop sI))) S' R) : w_T L xs (d + 1) m_X12_takesSome 0 (lv_args 0 [.ref 100, .int sI]) [] S R Q := by
  have e0 : v_pop sI = Int32.ofInt ((v_popN 12 sI.toInt.toNat : Nat) : Int) := by
    obtain ⟨e1, l1⟩ := v_nn hs
    have e2 : sI.toInt.toNat = sI.toBitVec.toNat := by omega
    have e3 : v_popN (12 + 20) sI.toBitVec.toNat = v_popN 12 sI.toBitVec.toNat := v_popN_big 20 12 sI.toBitVec.toNat (by omega)
    rw [e2, ← e3]
    rfl
  have hle := v_popN_f 12 sI.toInt.toNat
  have en := w_nat (k := v_popN 12 sI.toInt.toNat) (by omega)
  rw [e0, en] at hq
  refine w_st rfl (fun _ => rfl) ?_
  refine w_st rfl (fun _ => rfl) ?_
  refine w_st rfl (fun _ => rfl) ?_
  refine w_st rfl (fun _ => rfl) ?_
  show w_T L xs (d + 1) m_X12_takesSome 4 [(3, .int (Int32.ofInt 0)), (2, .int (Int32.ofInt 0)), (0, .ref 100), (1, .int sI)] [] S R Q
  exact h_ts51 sI hs hs5 12 0 S rfl hT (fun j hj => absurd hj (Nat.not_lt_zero _)) (fun S' a1 a2 a3 => hq S' a1 a2 (fun j hj => a3 j (by omega)))
theorem v_sb : ∀ k : Fin 5, (Int32.ofInt 1 <<< (Int32.ofInt ((k : Nat) : Int) &&& 31)).toBitVec.getLsbD k = true := by decide
theorem v_sc : ∀ (m : Fin 6) (k : Fin 5), ((Int32.ofInt 1 <<< (Int32.ofInt ((m : Nat) : Int) &&& 31)) - Int32.ofInt 1).toBitVec.getLsbD k = true → (k : Nat) < m := by decide
theorem h_isOrder1 (S : v_Sf) (R : v_Rf) (nn : Int32) (n1 : 1 ≤ nn.toInt) (n2 : nn.toInt ≤ 5) (hT : v_Tb v_ty S R) (hq : ∀ u : Int32, (u = 0 ∨ ∀ j : Nat, (j : Int) < nn.toInt → (S 154 j).toInt < nn.toInt) → Q (some (.int u)) S R) : ∀ (c i : Nat) (a : Int32), ((i + c : Nat) : Int) = nn.toInt → (∀ j, j < i → a.toBitVec.getLsbD (S 154 j).toInt.toNat = true) → w_T L xs d m_X12_isOrder 4 [(3, .int (Int32.ofInt (i : Int))), (2, .int a), (0, .ref 100), (1, .int nn)] [] S R Q := by
  have tR : v_TbC S R 154 _ := hT 154 _ rfl
  intro c
  induction c with
  | zero =>
    intro i a hc hb
    have ei := w_nat (k := i) (by omega)
    refine w_st rfl (fun _ => rfl) ?_
    refine w_st rfl (fun _ => rfl) ?_
    show w_T L xs d m_X12_isOrder 6 [(3, .int (Int32.ofInt (i : Int))), (2, .int a), (0, .ref 100), (1, .int nn)] [.int nn, .int (Int32.ofInt (i : Int))] S R Q
    refine w_br (P := nn ≤ (Int32.ofInt (i : Int))) rfl (fun _ => rfl) (fun h6 => ?_) (fun h6 => ?_)
    · refine w_st rfl (fun _ => rfl) ?_
      refine w_st rfl (fun _ => rfl) ?_
      refine w_st rfl (fun _ => rfl) ?_
      refine w_st rfl (fun _ => rfl) ?_
      refine w_st rfl (fun _ => rfl) ?_
      refine w_st rfl (fun _ => rfl) ?_
      show w_T L xs d m_X12_isOrder 32 [(3, .int (Int32.ofInt (i : Int))), (2, .int a), (0, .ref 100), (1, .int nn)] [.int (((Int32.ofInt 1) <<< (nn &&& 31)) - (Int32.ofInt 1)), .int a] S R Q
      refine w_br (P := ¬ a = (((Int32.ofInt 1) <<< (nn &&& 31)) - (Int32.ofInt 1))) rfl (fun _ => rfl) (fun h32 => ?_) (fun h32 => ?_)
      · refine w_st rfl (fun _ => rfl) ?_
        show w_T L xs d m_X12_isOrder 40 [(3, .int (Int32.ofInt (i : Int))), (2, .int a), (0, .ref 100), (1, .int nn)] [.int (Int32.ofInt 0)] S R Q
        refine w_ret rfl (by rfl) ?_
        first | exact hq _ (Or.inl rfl) | exact hq _ (Or.inr hall)
      · have ea := Decidable.of_not_not h32
        have hall : ∀ j : Nat, (j : Int) < nn.toInt → (S 154 j).toInt < nn.toInt := fun j hj => by
          have hbj := hb j (by omega)
          have kb : 0 ≤ (S 154 j).toInt ∧ (S 154 j).toInt ≤ 4 := tR j (by omega)
          have en : Int32.ofInt ((nn.toInt.toNat : Nat) : Int) = nn := by rw [show ((nn.toInt.toNat : Nat) : Int) = nn.toInt by omega, q_of]
          have := v_sc ⟨nn.toInt.toNat, by omega⟩ ⟨(S 154 j).toInt.toNat, by omega⟩ (by
            show ((Int32.ofInt 1 <<< (Int32.ofInt ((nn.toInt.toNat : Nat) : Int) &&& 31)) - Int32.ofInt 1).toBitVec.getLsbD (S 154 j).toInt.toNat = true
            rw [en, ← ea]
            exact hbj)
          have : (S 154 j).toInt.toNat < nn.toInt.toNat := this
          omega
        refine w_st rfl (fun _ => rfl) ?_
        refine w_st rfl (fun _ => rfl) ?_
        show w_T L xs d m_X12_isOrder 40 [(3, .int (Int32.ofInt (i : Int))), (2, .int a), (0, .ref 100), (1, .int nn)] [.int (Int32.ofInt 1)] S R Q
        refine w_ret rfl (by rfl) ?_
        first | exact hq _ (Or.inl rfl) | exact hq _ (Or.inr hall)
    · exfalso; rw [q_le32, ei] at h6; omega
  | succ c ih =>
    intro i a hc hb
    have ei := w_nat (k := i) (by omega)
    have ein : (Int32.ofInt (i : Int)).toInt.toNat = i := by rw [ei]; omega
    have kb : 0 ≤ (S 154 i).toInt ∧ (S 154 i).toInt ≤ 4 := tR i (by omega)
    refine w_st rfl (fun _ => rfl) ?_
    refine w_st rfl (fun _ => rfl) ?_
    show w_T L xs d m_X12_isOrder 6 [(3, .int (Int32.ofInt (i : Int))), (2, .int a), (0, .ref 100), (1, .int nn)] [.int nn, .int (Int32.ofInt (i : Int))] S R Q
    refine w_br (P := nn ≤ (Int32.ofInt (i : Int))) rfl (fun _ => rfl) (fun h6 => ?_) (fun h6 => ?_)
    · exfalso; rw [q_le32, ei] at h6; omega
    · refine w_st rfl (fun _ => rfl) ?_
      refine w_st rfl (fun _ => rfl) ?_
      refine w_st rfl (fun _ => rfl) ?_
      show w_T L xs d m_X12_isOrder 12 [(3, .int (Int32.ofInt (i : Int))), (2, .int a), (0, .ref 100), (1, .int nn)] [.ref 100, .int (Int32.ofInt 1), .int a] S R Q
      refine w_getr rfl v_tyM rfl ?_
      refine w_st rfl (fun _ => rfl) ?_
      show w_T L xs d m_X12_isOrder 16 [(3, .int (Int32.ofInt (i : Int))), (2, .int a), (0, .ref 100), (1, .int nn)] [.int (Int32.ofInt (i : Int)), .ref 155, .int (Int32.ofInt 1), .int a] S R Q
      refine w_iald rfl rfl (by rw [ei]; omega) (by rw [ei]; omega) ?_
      rw [ein]
      refine w_st rfl (fun _ => rfl) ?_
      refine w_st rfl (fun _ => rfl) ?_
      refine w_st rfl (fun _ => rfl) ?_
      refine w_st rfl (fun _ => rfl) ?_
      refine w_st rfl (fun _ => rfl) ?_
      show w_T L xs d m_X12_isOrder 4 [(3, .int ((Int32.ofInt (i : Int)) + Int32.ofInt 1)), (2, .int (a ||| ((Int32.ofInt 1) <<< ((S 154 i) &&& 31)))), (0, .ref 100), (1, .int nn)] [] S R Q
      rw [w_inc]
      refine ih (i + 1) _ (by omega) (fun j hj => ?_)
      show (a.toBitVec ||| (Int32.ofInt 1 <<< (S 154 i &&& 31)).toBitVec).getLsbD _ = true
      rw [BitVec.getLsbD_or]
      by_cases hji : j = i
      · subst hji
        have e := v_sb ⟨(S 154 j).toInt.toNat, by omega⟩
        have e : (Int32.ofInt 1 <<< (Int32.ofInt (((S 154 j).toInt.toNat : Nat) : Int) &&& 31)).toBitVec.getLsbD (S 154 j).toInt.toNat = true := e
        rw [show (((S 154 j).toInt.toNat : Nat) : Int) = (S 154 j).toInt by omega, q_of] at e
        rw [e, Bool.or_true]
      · rw [hb j (by omega), Bool.true_or]
theorem h_isOrder (S : v_Sf) (R : v_Rf) (nn : Int32) (n1 : 1 ≤ nn.toInt) (n2 : nn.toInt ≤ 5) (hT : v_Tb v_ty S R) (hq : ∀ u : Int32, (u = 0 ∨ ∀ j : Nat, (j : Int) < nn.toInt → (S 154 j).toInt < nn.toInt) → Q (some (.int u)) S R) : w_T L xs d m_X12_isOrder 0 (lv_args 0 [.ref 100, .int nn]) [] S R Q := by
  refine w_st rfl (fun _ => rfl) ?_
  refine w_st rfl (fun _ => rfl) ?_
  refine w_st rfl (fun _ => rfl) ?_
  refine w_st rfl (fun _ => rfl) ?_
  show w_T L xs d m_X12_isOrder 4 [(3, .int (Int32.ofInt 0)), (2, .int (Int32.ofInt 0)), (0, .ref 100), (1, .int nn)] [] S R Q
  exact h_isOrder1 S R nn n1 n2 hT hq nn.toInt.toNat 0 _ (by omega) (fun j hj => absurd hj (Nat.not_lt_zero _))
set_option maxHeartbeats 1000000 in
theorem h_nI (hL : v_Met L xs v_ty v_Op 204 rw_191) (nn sI wI wh rI best : Int32) (n2 : nn.toInt ≤ 5) : ∀ (c k : Nat) (S : v_Sf) (R : v_Rf) (s : Int32), ((k + c : Nat) : Int) = nn.toInt → v_Tb v_ty S R → v_Op S → (∀ j : Nat, (j : Int) < nn.toInt → (S 152 j).toInt ≤ 4) → (∀ j : Nat, (j : Int) < nn.toInt → (S 154 j).toInt < nn.toInt) → (∀ (S' : v_Sf) (R' : v_Rf) (k' s' : Int32), v_Tb v_ty S' R' → v_Op S' → v_Fr [(99, 27, 40), (114, 0, 240), (115, 0, 240)] S R S' R' → w_T L xs (d + 9) m_X12_nursed 165 [(9, .int (k')), (8, .int (s')), (7, .int rI), (6, .int best), (5, .int nn), (4, .int nn), (0, .ref 100), (1, .int sI), (2, .int wI), (3, .int wh)] [] S' R' Q) → w_T L xs (d + 9) m_X12_nursed 124 [(9, .int (Int32.ofInt (k : Int))), (8, .int s), (7, .int rI), (6, .int best), (5, .int nn), (4, .int nn), (0, .ref 100), (1, .int sI), (2, .int wI), (3, .int wh)] [] S R Q := by
  have ct : ∀ j, v_md [(99, 27, 40), (114, 0, 240), (115, 0, 240)] 152 j j = false := fun j => rfl
  have cu : ∀ j, v_md [(99, 27, 40), (114, 0, 240), (115, 0, 240)] 154 j j = false := fun j => rfl
  intro c
  induction c with
  | zero =>
    intro k S R s hc hT hO hf hg K
    have ek := w_nat (k := k) (by omega)
    refine w_st rfl (fun _ => rfl) ?_
    refine w_st rfl (fun _ => rfl) ?_
    show w_T L xs (d + 9) m_X12_nursed 128 [(9, .int (Int32.ofInt (k : Int))), (8, .int s), (7, .int rI), (6, .int best), (5, .int nn), (4, .int nn), (0, .ref 100), (1, .int sI), (2, .int wI), (3, .int wh)] [.int nn, .int (Int32.ofInt (k : Int))] S R Q
    refine w_br (P := nn ≤ (Int32.ofInt (k : Int))) rfl (fun _ => rfl) (fun h128 => ?_) (fun h128 => ?_)
    · exact K S R _ _ hT hO (v_Fr_rf _ _ _)
    · exfalso; rw [q_le32, ek] at h128; omega
  | succ c ih =>
    intro k S R s hc hT hO hf hg K
    have ek := w_nat (k := k) (by omega)
    have ekn : (Int32.ofInt (k : Int)).toInt.toNat = k := by rw [ek]; omega
    have t2 : v_TbC S R 152 _ := hT 152 _ rfl
    have t3 : v_TbC S R 153 _ := hT 153 _ rfl
    have t4 : v_TbC S R 154 _ := hT 154 _ rfl
    have r1 : 0 ≤ (S 154 k).toInt ∧ (S 154 k).toInt ≤ 4 := t4 k (by omega)
    have r2 := hg k (by omega)
    have p1 : 0 ≤ (S 153 k).toInt ∧ (S 153 k).toInt ≤ 5 := t3 k (by omega)
    have s1 : 0 ≤ (S 152 (S 154 k).toInt.toNat).toInt ∧ (S 152 (S 154 k).toInt.toNat).toInt ≤ 11 := t2 _ (by omega)
    have s2 := hf (S 154 k).toInt.toNat (by omega)
    refine w_st rfl (fun _ => rfl) ?_
    refine w_st rfl (fun _ => rfl) ?_
    show w_T L xs (d + 9) m_X12_nursed 128 [(9, .int (Int32.ofInt (k : Int))), (8, .int s), (7, .int rI), (6, .int best), (5, .int nn), (4, .int nn), (0, .ref 100), (1, .int sI), (2, .int wI), (3, .int wh)] [.int nn, .int (Int32.ofInt (k : Int))] S R Q
    refine w_br (P := nn ≤ (Int32.ofInt (k : Int))) rfl (fun _ => rfl) (fun h128 => ?_) (fun h128 => ?_)
    · exfalso; rw [q_le32, ek] at h128; omega
    · refine w_st rfl (fun _ => rfl) ?_
      refine w_st rfl (fun _ => rfl) ?_
      refine w_st rfl (fun _ => rfl) ?_
      show w_T L xs (d + 9) m_X12_nursed 135 [(9, .int (Int32.ofInt (k : Int))), (8, .int s), (7, .int rI), (6, .int best), (5, .int nn), (4, .int nn), (0, .ref 100), (1, .int sI), (2, .int wI), (3, .int wh)] [.ref 100, .ref 100, .int s] S R Q
      refine w_getr rfl v_tyM rfl ?_
      refine w_st rfl (fun _ => rfl) ?_
      show w_T L xs (d + 9) m_X12_nursed 139 [(9, .int (Int32.ofInt (k : Int))), (8, .int s), (7, .int rI), (6, .int best), (5, .int nn), (4, .int nn), (0, .ref 100), (1, .int sI), (2, .int wI), (3, .int wh)] [.ref 100, .ref 153, .ref 100, .int s] S R Q
      refine w_getr rfl v_tyM rfl ?_
      refine w_st rfl (fun _ => rfl) ?_
      show w_T L xs (d + 9) m_X12_nursed 144 [(9, .int (Int32.ofInt (k : Int))), (8, .int s), (7, .int rI), (6, .int best), (5, .int nn), (4, .int nn), (0, .ref 100), (1, .int sI), (2, .int wI), (3, .int wh)] [.int (Int32.ofInt (k : Int)), .ref 155, .ref 153, .ref 100, .int s] S R Q
      refine w_iald rfl rfl (by rw [ek]; omega) (by rw [ek]; omega) ?_
      rw [ekn]
      show w_T L xs (d + 9) m_X12_nursed 145 [(9, .int (Int32.ofInt (k : Int))), (8, .int s), (7, .int rI), (6, .int best), (5, .int nn), (4, .int nn), (0, .ref 100), (1, .int sI), (2, .int wI), (3, .int wh)] [.int (S 154 k), .ref 153, .ref 100, .int s] S R Q
      refine w_iald rfl rfl (by omega) (by omega) ?_
      refine w_st rfl (fun _ => rfl) ?_
      show w_T L xs (d + 9) m_X12_nursed 147 [(9, .int (Int32.ofInt (k : Int))), (8, .int s), (7, .int rI), (6, .int best), (5, .int nn), (4, .int nn), (0, .ref 100), (1, .int sI), (2, .int wI), (3, .int wh)] [.ref 100, .int (S 152 (S 154 k).toInt.toNat), .ref 100, .int s] S R Q
      refine w_getr rfl v_tyM rfl ?_
      refine w_st rfl (fun _ => rfl) ?_
      show w_T L xs (d + 9) m_X12_nursed 152 [(9, .int (Int32.ofInt (k : Int))), (8, .int s), (7, .int rI), (6, .int best), (5, .int nn), (4, .int nn), (0, .ref 100), (1, .int sI), (2, .int wI), (3, .int wh)] [.int (Int32.ofInt (k : Int)), .ref 154, .int (S 152 (S 154 k).toInt.toNat), .ref 100, .int s] S R Q
      refine w_iald rfl rfl (by rw [ek]; omega) (by rw [ek]; omega) ?_
      rw [ekn]
      show w_T L xs (d + 9) m_X12_nursed 153 [(9, .int (Int32.ofInt (k : Int))), (8, .int s), (7, .int rI), (6, .int best), (5, .int nn), (4, .int nn), (0, .ref 100), (1, .int sI), (2, .int wI), (3, .int wh)] [.int (S 153 k), .int (S 152 (S 154 k).toInt.toNat), .ref 100, .int s] S R Q
      refine w_cv rfl (by decide) mt_X12_falling v_tyM rfl rfl rfl (Nat.le_of_ble_eq_true rfl) (Nat.le_of_ble_eq_true rfl) (Nat.le_of_ble_eq_true rfl) ?_
      show w_T L xs _ m_X12_falling 0 (lv_args 0 [.ref 100, .int (S 152 (S 154 k).toInt.toNat), .int (S 153 k)]) [] S R _
      refine w_met hL (Nat.le_of_ble_eq_true rfl) mt_X12_falling ⟨rfl, ⟨_, rfl, s1.1, s2⟩, ⟨_, rfl, p1.1, p1.2⟩, trivial⟩ hT hO (fun r S1 R1 hT1 hO1 hr hF => ?_)
      obtain ⟨u, hr, -, -⟩ := hr
      subst hr
      refine w_st rfl (fun _ => rfl) ?_
      refine w_st rfl (fun _ => rfl) ?_
      refine w_st rfl (fun _ => rfl) ?_
      refine w_st rfl (fun _ => rfl) ?_
      show w_T L xs (d + 9) m_X12_nursed 124 [(9, .int ((Int32.ofInt (k : Int)) + Int32.ofInt 1)), (8, .int (s + u)), (7, .int rI), (6, .int best), (5, .int nn), (4, .int nn), (0, .ref 100), (1, .int sI), (2, .int wI), (3, .int wh)] [] S1 R1 Q
      rw [w_inc]
      exact ih (k + 1) S1 R1 _ (by omega) hT1 hO1 (fun j hj => by rw [(hF 152 j (ct j)).1]; exact hf j hj) (fun j hj => by rw [(hF 154 j (cu j)).1]; exact hg j hj) (fun S2 R2 k2 s2 q1 q2 q3 => K S2 R2 k2 s2 q1 q2 (v_Fr_tr hF q3))
theorem h_placeIn {S : v_Sf} {R : v_Rf} (a b : Int32) (hq : Q (some (.int (v_pop (a &&& ((Int32.ofInt 1 <<< (b &&& 31)) - Int32.ofInt 1))))) S R) : w_T L xs (d + 1) m_X12_placeIn 0 (lv_args 0 [.int a, .int b]) [] S R Q := by
  refine w_st rfl (fun _ => rfl) ?_
  refine w_st rfl (fun _ => rfl) ?_
  refine w_st rfl (fun _ => rfl) ?_
  refine w_st rfl (fun _ => rfl) ?_
  refine w_st rfl (fun _ => rfl) ?_
  refine w_st rfl (fun _ => rfl) ?_
  refine w_st rfl (fun _ => rfl) ?_
  show w_T L xs (d + 1) m_X12_placeIn 7 [(0, .int a), (1, .int b)] [.int (a &&& (((Int32.ofInt 1) <<< (b &&& 31)) - (Int32.ofInt 1)))] S R Q
  refine w_cs rfl (by decide) mt_X12_sizeOf (fun _ => rfl) (Nat.le_of_ble_eq_true rfl) (Nat.le_of_ble_eq_true rfl) ?_
  show w_T L xs _ m_X12_sizeOf 0 (lv_args 0 [.int (a &&& (((Int32.ofInt 1) <<< (b &&& 31)) - (Int32.ofInt 1)))]) [] S R _
  refine h_sizeOf _ ?_
  show w_T L xs (d + 1) m_X12_placeIn 10 [(0, .int a), (1, .int b)] [.int (v_pop (a &&& (((Int32.ofInt 1) <<< (b &&& 31)) - (Int32.ofInt 1))))] S R Q
  refine w_ret rfl rfl ?_
  exact hq
set_option maxHeartbeats 2000000 in
theorem h_nbA (hL : v_Met L xs v_ty v_Op 204 rw_191) (hW : v_Met L xs v_ty v_Op 254 rw_224) (hB : v_Met L xs v_ty v_Op 255 rw_225) (hP : v_Met L xs v_ty v_Op 253 rw_223) (nn sI wI wh best k0 s0 : Int32) (n1 : 1 ≤ nn.toInt) (n2 : nn.toInt ≤ 5) (hw : (v_pop wI).toInt ≤ 6) (r : Nat) (hr9 : r ≤ 2147483647) (S : v_Sf) (R : v_Rf) (hT : v_Tb v_ty S R) (hO : v_Op S) (hf : ∀ j : Nat, (j : Int) < nn.toInt → (S 152 j).toInt ≤ 4) (hq : ∀ v : Int32, Q (some (.int v)) S R) (K1 : r < 2147483647 → ∀ (S' : v_Sf) (R' : v_Rf), v_Tb v_ty S' R' → v_Op S' → v_Fr [(99, 27, 40), (114, 0, 240), (115, 0, 240), (152, 0, 12), (153, 0, 6), (154, 0, 8), (155, 0, 8)] S R S' R' → (∀ j, S' 152 j = S 152 j) → w_T L xs (d + 9) m_X12_nursed 84 [(7, .int (Int32.ofInt ((r + 1 : Nat) : Int))), (6, .int best), (5, .int nn), (4, .int nn), (0, .ref 100), (1, .int sI), (2, .int wI), (3, .int wh)] [] S' R' Q) (K2 : r < 2147483647 → ∀ (S' : v_Sf) (R' : v_Rf) (b' k' s' : Int32), v_Tb v_ty S' R' → v_Op S' → v_Fr [(99, 27, 40), (114, 0, 240), (115, 0, 240), (152, 0, 12), (153, 0, 6), (154, 0, 8), (155, 0, 8)] S R S' R' → (∀ j, S' 152 j = S 152 j) → w_T L xs (d + 9) m_X12_nursed 84 [(7, .int (Int32.ofInt ((r + 1 : Nat) : Int))), (9, .int (k')), (8, .int (s')), (6, .int (b')), (5, .int nn), (4, .int nn), (0, .ref 100), (1, .int sI), (2, .int wI), (3, .int wh)] [] S' R' Q) : w_T L xs (d + 9) m_X12_nursed 84 [(7, .int (Int32.ofInt (r : Int))), (6, .int best), (5, .int nn), (4, .int nn), (0, .ref 100), (1, .int sI), (2, .int wI), (3, .int wh)] [] S R Q := by
  have er : (Int32.ofInt (r : Int)).toInt = (r : Int) := q_ofr (by omega) (by omega)
  have ct : ∀ j, v_md [(154, 0, 8)] 152 j j = false := fun j => rfl
  have cu : ∀ j, v_md [(99, 27, 40), (114, 0, 240), (115, 0, 240)] 152 j j = false := fun j => rfl
  have cv : ∀ j, v_md [(155, 0, 8)] 152 j j = false := fun j => rfl
  have t5 : v_TbC S R 155 _ := hT 155 _ rfl
  refine w_st rfl (fun _ => rfl) ?_
  refine w_st rfl (fun _ => rfl) ?_
  refine w_st rfl (fun _ => rfl) ?_
  show w_T L xs (d + 9) m_X12_nursed 90 [(7, .int (Int32.ofInt (r : Int))), (6, .int best), (5, .int nn), (4, .int nn), (0, .ref 100), (1, .int sI), (2, .int wI), (3, .int wh)] [.int nn, .int nn, .int (Int32.ofInt (r : Int))] S R Q
  refine w_cs rfl (by decide) mt_X12_powerOf (fun _ => rfl) (Nat.le_of_ble_eq_true rfl) (Nat.le_of_ble_eq_true rfl) ?_
  show w_T L xs _ m_X12_powerOf 0 (lv_args 0 [.int nn, .int nn]) [] S R _
  refine w_met hP (Nat.zero_le _) mt_X12_powerOf ⟨⟨_, rfl, n1, n2⟩, ⟨_, rfl, n1, (by show nn.toInt ≤ 6; omega)⟩, trivial⟩ hT hO (fun r1 S1 R1 hT1 hO1 hr hF => ?_)
  obtain ⟨u, hr, -, -⟩ := hr
  subst hr
  obtain ⟨rfl, rfl⟩ := v_Fr_nil hF
  show w_T L xs (d + 9) m_X12_nursed 93 [(7, .int (Int32.ofInt (r : Int))), (6, .int best), (5, .int nn), (4, .int nn), (0, .ref 100), (1, .int sI), (2, .int wI), (3, .int wh)] [.int u, .int (Int32.ofInt (r : Int))] S R Q
  refine w_br (P := u ≤ (Int32.ofInt (r : Int))) rfl (fun _ => rfl) (fun h93 => ?_) (fun h93 => ?_)
  · refine w_st rfl (fun _ => rfl) ?_
    refine w_st rfl (fun _ => rfl) ?_
    show w_T L xs (d + 9) m_X12_nursed 194 [(7, .int (Int32.ofInt (r : Int))), (6, .int best), (5, .int nn), (4, .int nn), (0, .ref 100), (1, .int sI), (2, .int wI), (3, .int wh)] [.int (Int32.ofInt 20), .int wh] S R Q
    refine w_br (P := ¬ wh = (Int32.ofInt 20)) rfl (fun _ => rfl) (fun h194 => ?_) (fun h194 => ?_)
    · refine w_st rfl (fun _ => rfl) ?_
      show w_T L xs (d + 9) m_X12_nursed 203 [(7, .int (Int32.ofInt (r : Int))), (6, .int best), (5, .int nn), (4, .int nn), (0, .ref 100), (1, .int sI), (2, .int wI), (3, .int wh)] [.ref 100] S R Q
      refine w_getr rfl v_tyM rfl ?_
      refine w_st rfl (fun _ => rfl) ?_
      show w_T L xs (d + 9) m_X12_nursed 207 [(7, .int (Int32.ofInt (r : Int))), (6, .int best), (5, .int nn), (4, .int nn), (0, .ref 100), (1, .int sI), (2, .int wI), (3, .int wh)] [.ref 100, .ref 153] S R Q
      refine w_getr rfl v_tyM rfl ?_
      refine w_st rfl (fun _ => rfl) ?_
      refine w_st rfl (fun _ => rfl) ?_
      show w_T L xs (d + 9) m_X12_nursed 212 [(7, .int (Int32.ofInt (r : Int))), (6, .int best), (5, .int nn), (4, .int nn), (0, .ref 100), (1, .int sI), (2, .int wI), (3, .int wh)] [.int wh, .int wI, .ref 156, .ref 153] S R Q
      refine w_cs rfl (by decide) mt_X12_placeIn (fun _ => rfl) (Nat.le_of_ble_eq_true rfl) (Nat.le_of_ble_eq_true rfl) ?_
      show w_T L xs _ m_X12_placeIn 0 (lv_args 0 [.int wI, .int wh]) [] S R _
      refine h_placeIn _ _ ?_
      have hp := v_pop_and wI ((Int32.ofInt 1 <<< (wh &&& 31)) - Int32.ofInt 1)
      have hp0 : 0 ≤ (v_pop (wI &&& ((Int32.ofInt 1 <<< (wh &&& 31)) - Int32.ofInt 1))).toInt := by rw [v_pop_e]; omega
      have b5 : 0 ≤ (S 155 (v_pop (wI &&& ((Int32.ofInt 1 <<< (wh &&& 31)) - Int32.ofInt 1))).toInt.toNat).toInt ∧ (S 155 (v_pop (wI &&& ((Int32.ofInt 1 <<< (wh &&& 31)) - Int32.ofInt 1))).toInt.toNat).toInt ≤ 4 := t5 _ (by omega)
      show w_T L xs (d + 9) m_X12_nursed 215 [(7, .int (Int32.ofInt (r : Int))), (6, .int best), (5, .int nn), (4, .int nn), (0, .ref 100), (1, .int sI), (2, .int wI), (3, .int wh)] [.int (v_pop (wI &&& ((Int32.ofInt 1 <<< (wh &&& 31)) - Int32.ofInt 1))), .ref 156, .ref 153] S R Q
      refine w_iald rfl rfl (by omega) (by omega) ?_
      show w_T L xs (d + 9) m_X12_nursed 216 [(7, .int (Int32.ofInt (r : Int))), (6, .int best), (5, .int nn), (4, .int nn), (0, .ref 100), (1, .int sI), (2, .int wI), (3, .int wh)] [.int (S 155 (v_pop (wI &&& ((Int32.ofInt 1 <<< (wh &&& 31)) - Int32.ofInt 1))).toInt.toNat), .ref 153] S R Q
      refine w_iald rfl rfl (by omega) (by omega) ?_
      show w_T L xs (d + 9) m_X12_nursed 217 [(7, .int (Int32.ofInt (r : Int))), (6, .int best), (5, .int nn), (4, .int nn), (0, .ref 100), (1, .int sI), (2, .int wI), (3, .int wh)] [.int (S 152 (S 155 (v_pop (wI &&& ((Int32.ofInt 1 <<< (wh &&& 31)) - Int32.ofInt 1))).toInt.toNat).toInt.toNat)] S R Q
      refine w_ret rfl rfl ?_
      exact hq _
    · refine w_st rfl (fun _ => rfl) ?_
      refine w_st rfl (fun _ => rfl) ?_
      show w_T L xs (d + 9) m_X12_nursed 217 [(7, .int (Int32.ofInt (r : Int))), (6, .int best), (5, .int nn), (4, .int nn), (0, .ref 100), (1, .int sI), (2, .int wI), (3, .int wh)] [.int best] S R Q
      refine w_ret rfl rfl ?_
      exact hq _
  · have r9 : r < 2147483647 := by
      have := (q_rng u).2
      rw [q_le32, er] at h93
      omega
    refine w_st rfl (fun _ => rfl) ?_
    refine w_st rfl (fun _ => rfl) ?_
    refine w_st rfl (fun _ => rfl) ?_
    refine w_st rfl (fun _ => rfl) ?_
    show w_T L xs (d + 9) m_X12_nursed 103 [(7, .int (Int32.ofInt (r : Int))), (6, .int best), (5, .int nn), (4, .int nn), (0, .ref 100), (1, .int sI), (2, .int wI), (3, .int wh)] [.int nn, .int nn, .int (Int32.ofInt (r : Int)), .ref 100] S R Q
    refine w_cv rfl (by decide) mt_X12_opensRow v_tyM rfl rfl rfl (Nat.le_of_ble_eq_true rfl) (Nat.le_of_ble_eq_true rfl) (Nat.le_of_ble_eq_true rfl) ?_
    show w_T L xs _ m_X12_opensRow 0 (lv_args 0 [.ref 100, .int (Int32.ofInt (r : Int)), .int nn, .int nn]) [] S R _
    refine w_met hW (Nat.zero_le _) mt_X12_opensRow ⟨rfl, ⟨_, rfl, by rw [er]; show (0 : Int) ≤ _; omega, (q_rng _).2⟩, ⟨_, rfl, n1, (by show nn.toInt ≤ 6; omega)⟩, ⟨_, rfl, n1, n2⟩, trivial⟩ hT hO (fun r1 S1 R1 hT1 hO1 hr hF1 => ?_)
    have hr : r1 = none := hr
    subst hr
    have hG1 : v_Fr [(99, 27, 40), (114, 0, 240), (115, 0, 240), (152, 0, 12), (153, 0, 6), (154, 0, 8), (155, 0, 8)] S R S1 R1 := v_Fr_sub (by decide +kernel) hF1
    have hf1 : ∀ j, S1 152 j = S 152 j := fun j => (hF1 152 j (ct j)).1
    refine w_st rfl (fun _ => rfl) ?_
    refine w_st rfl (fun _ => rfl) ?_
    show w_T L xs (d + 9) m_X12_nursed 109 [(7, .int (Int32.ofInt (r : Int))), (6, .int best), (5, .int nn), (4, .int nn), (0, .ref 100), (1, .int sI), (2, .int wI), (3, .int wh)] [.int nn, .ref 100] S1 R1 Q
    refine w_cv rfl (by decide) mt_X12_isOrder v_tyM rfl rfl rfl (Nat.le_of_ble_eq_true rfl) (Nat.le_of_ble_eq_true rfl) (Nat.le_of_ble_eq_true rfl) ?_
    show w_T L xs _ m_X12_isOrder 0 (lv_args 0 [.ref 100, .int nn]) [] S1 R1 _
    refine h_isOrder S1 R1 nn n1 n2 hT1 (fun o ho => ?_)
    show w_T L xs (d + 9) m_X12_nursed 112 [(7, .int (Int32.ofInt (r : Int))), (6, .int best), (5, .int nn), (4, .int nn), (0, .ref 100), (1, .int sI), (2, .int wI), (3, .int wh)] [.int o] S1 R1 Q
    refine w_br (P := ¬ o = 0) rfl (fun _ => rfl) (fun h112 => ?_) (fun h112 => ?_)
    · refine w_st rfl (fun _ => rfl) ?_
      refine w_st rfl (fun _ => rfl) ?_
      refine w_st rfl (fun _ => rfl) ?_
      refine w_st rfl (fun _ => rfl) ?_
      show w_T L xs (d + 9) m_X12_nursed 124 [(9, .int (Int32.ofInt 0)), (8, .int (Int32.ofInt 0)), (7, .int (Int32.ofInt (r : Int))), (6, .int best), (5, .int nn), (4, .int nn), (0, .ref 100), (1, .int sI), (2, .int wI), (3, .int wh)] [] S1 R1 Q
      refine h_nI hL nn sI wI wh _ best n2 nn.toInt.toNat 0 S1 R1 _ (by omega) hT1 hO1 (fun j hj => by rw [hf1]; exact hf j hj) (ho.resolve_left (fun e => h112 e)) (fun S2 R2 k2 s2 hT2 hO2 hF2 => ?_)
      have hG2 : v_Fr [(99, 27, 40), (114, 0, 240), (115, 0, 240), (152, 0, 12), (153, 0, 6), (154, 0, 8), (155, 0, 8)] S R S2 R2 := v_Fr_tr hG1 (v_Fr_sub (by decide +kernel) hF2)
      have hf2 : ∀ j, S2 152 j = S 152 j := fun j => by rw [(hF2 152 j (cu j)).1, hf1]
      refine w_st rfl (fun _ => rfl) ?_
      refine w_st rfl (fun _ => rfl) ?_
      show w_T L xs (d + 9) m_X12_nursed 169 [(9, .int k2), (8, .int s2), (7, .int (Int32.ofInt (r : Int))), (6, .int best), (5, .int nn), (4, .int nn), (0, .ref 100), (1, .int sI), (2, .int wI), (3, .int wh)] [.int best, .int s2] S2 R2 Q
      refine w_br (P := s2 < best) rfl (fun _ => rfl) (fun h169 => ?_) (fun h169 => ?_)
      · refine w_st rfl (fun _ => rfl) ?_
        refine w_st rfl (fun _ => rfl) ?_
        refine w_st rfl (fun _ => rfl) ?_
        refine w_st rfl (fun _ => rfl) ?_
        show w_T L xs (d + 9) m_X12_nursed 182 [(6, .int s2), (9, .int k2), (8, .int s2), (7, .int (Int32.ofInt (r : Int))), (5, .int nn), (4, .int nn), (0, .ref 100), (1, .int sI), (2, .int wI), (3, .int wh)] [.int nn, .ref 100] S2 R2 Q
        refine w_cv rfl (by decide) mt_X12_keepsRow v_tyM rfl rfl rfl (Nat.le_of_ble_eq_true rfl) (Nat.le_of_ble_eq_true rfl) (Nat.le_of_ble_eq_true rfl) ?_
        show w_T L xs _ m_X12_keepsRow 0 (lv_args 0 [.ref 100, .int nn]) [] S2 R2 _
        refine w_met hB (Nat.zero_le _) mt_X12_keepsRow ⟨rfl, ⟨_, rfl, n1, (by show nn.toInt ≤ 6; omega)⟩, trivial⟩ hT2 hO2 (fun r1 S3 R3 hT3 hO3 hr hF3 => ?_)
        have hr : r1 = none := hr
        subst hr
        have hG3 : v_Fr [(99, 27, 40), (114, 0, 240), (115, 0, 240), (152, 0, 12), (153, 0, 6), (154, 0, 8), (155, 0, 8)] S R S3 R3 := v_Fr_tr hG2 (v_Fr_sub (by decide +kernel) hF3)
        have hf3 : ∀ j, S3 152 j = S 152 j := fun j => by rw [(hF3 152 j (cv j)).1, hf2]
        refine w_st rfl (fun _ => rfl) ?_
        refine w_st rfl (fun _ => rfl) ?_
        show w_T L xs (d + 9) m_X12_nursed 84 [(7, .int ((Int32.ofInt (r : Int)) + Int32.ofInt 1)), (6, .int s2), (9, .int k2), (8, .int s2), (5, .int nn), (4, .int nn), (0, .ref 100), (1, .int sI), (2, .int wI), (3, .int wh)] [] S3 R3 Q
        refine w_lc (b := [(7, .int ((Int32.ofInt (r : Int)) + Int32.ofInt 1)), (9, .int k2), (8, .int s2), (6, .int s2), (5, .int nn), (4, .int nn), (0, .ref 100), (1, .int sI), (2, .int wI), (3, .int wh)]) (show ([7, 6, 9, 8, 5, 4, 0, 1, 2, 3] : List Nat).Nodup by decide) (show ([7, 9, 8, 6, 5, 4, 0, 1, 2, 3] : List Nat).Nodup by decide) (fun i => match i with | 0 => rfl | 1 => rfl | 2 => rfl | 3 => rfl | 4 => rfl | 5 => rfl | 6 => rfl | 7 => rfl | 8 => rfl | 9 => rfl | _ + 10 => rfl) ?_
        rw [w_inc]
        exact K2 r9 S3 R3 _ _ _ hT3 hO3 hG3 hf3
      · refine w_st rfl (fun _ => rfl) ?_
        refine w_st rfl (fun _ => rfl) ?_
        refine w_st rfl (fun _ => rfl) ?_
        show w_T L xs (d + 9) m_X12_nursed 84 [(7, .int ((Int32.ofInt (r : Int)) + Int32.ofInt 1)), (9, .int k2), (8, .int s2), (6, .int best), (5, .int nn), (4, .int nn), (0, .ref 100), (1, .int sI), (2, .int wI), (3, .int wh)] [] S2 R2 Q
        rw [w_inc]
        exact K2 r9 S2 R2 _ _ _ hT2 hO2 hG2 hf2
    · refine w_st rfl (fun _ => rfl) ?_
      refine w_st rfl (fun _ => rfl) ?_
      refine w_st rfl (fun _ => rfl) ?_
      show w_T L xs (d + 9) m_X12_nursed 84 [(7, .int ((Int32.ofInt (r : Int)) + Int32.ofInt 1)), (6, .int best), (5, .int nn), (4, .int nn), (0, .ref 100), (1, .int sI), (2, .int wI), (3, .int wh)] [] S1 R1 Q
      rw [w_inc]
      exact K1 r9 S1 R1 hT1 hO1 hG1 hf1
set_option maxHeartbeats 2000000 in
theorem h_nbB (hL : v_Met L xs v_ty v_Op 204 rw_191) (hW : v_Met L xs v_ty v_Op 254 rw_224) (hB : v_Met L xs v_ty v_Op 255 rw_225) (hP : v_Met L xs v_ty v_Op 253 rw_223) (nn sI wI wh best k0 s0 : Int32) (n1 : 1 ≤ nn.toInt) (n2 : nn.toInt ≤ 5) (hw : (v_pop wI).toInt ≤ 6) (r : Nat) (hr9 : r ≤ 2147483647) (S : v_Sf) (R : v_Rf) (hT : v_Tb v_ty S R) (hO : v_Op S) (hf : ∀ j : Nat, (j : Int) < nn.toInt → (S 152 j).toInt ≤ 4) (hq : ∀ v : Int32, Q (some (.int v)) S R) (K1 : r < 2147483647 → ∀ (S' : v_Sf) (R' : v_Rf), v_Tb v_ty S' R' → v_Op S' → v_Fr [(99, 27, 40), (114, 0, 240), (115, 0, 240), (152, 0, 12), (153, 0, 6), (154, 0, 8), (155, 0, 8)] S R S' R' → (∀ j, S' 152 j = S 152 j) → w_T L xs (d + 9) m_X12_nursed 84 [(7, .int (Int32.ofInt ((r + 1 : Nat) : Int))), (9, .int k0), (8, .int s0), (6, .int best), (5, .int nn), (4, .int nn), (0, .ref 100), (1, .int sI), (2, .int wI), (3, .int wh)] [] S' R' Q) (K2 : r < 2147483647 → ∀ (S' : v_Sf) (R' : v_Rf) (b' k' s' : Int32), v_Tb v_ty S' R' → v_Op S' → v_Fr [(99, 27, 40), (114, 0, 240), (115, 0, 240), (152, 0, 12), (153, 0, 6), (154, 0, 8), (155, 0, 8)] S R S' R' → (∀ j, S' 152 j = S 152 j) → w_T L xs (d + 9) m_X12_nursed 84 [(7, .int (Int32.ofInt ((r + 1 : Nat) : Int))), (9, .int (k')), (8, .int (s')), (6, .int (b')), (5, .int nn), (4, .int nn), (0, .ref 100), (1, .int sI), (2, .int wI), (3, .int wh)] [] S' R' Q) : w_T L xs (d + 9) m_X12_nursed 84 [(7, .int (Int32.ofInt (r : Int))), (9, .int k0), (8, .int s0), (6, .int best), (5, .int nn), (4, .int nn), (0, .ref 100), (1, .int sI), (2, .int wI), (3, .int wh)] [] S R Q := by
  have er : (Int32.ofInt (r : Int)).toInt = (r : Int) := q_ofr (by omega) (by omega)
  have ct : ∀ j, v_md [(154, 0, 8)] 152 j j = false := fun j => rfl
  have cu : ∀ j, v_md [(99, 27, 40), (114, 0, 240), (115, 0, 240)] 152 j j = false := fun j => rfl
  have cv : ∀ j, v_md [(155, 0, 8)] 152 j j = false := fun j => rfl
  have t5 : v_TbC S R 155 _ := hT 155 _ rfl
  refine w_st rfl (fun _ => rfl) ?_
  refine w_st rfl (fun _ => rfl) ?_
  refine w_st rfl (fun _ => rfl) ?_
  show w_T L xs (d + 9) m_X12_nursed 90 [(7, .int (Int32.ofInt (r : Int))), (9, .int k0), (8, .int s0), (6, .int best), (5, .int nn), (4, .int nn), (0, .ref 100), (1, .int sI), (2, .int wI), (3, .int wh)] [.int nn, .int nn, .int (Int32.ofInt (r : Int))] S R Q
  refine w_cs rfl (by decide) mt_X12_powerOf (fun _ => rfl) (Nat.le_of_ble_eq_true rfl) (Nat.le_of_ble_eq_true rfl) ?_
  show w_T L xs _ m_X12_powerOf 0 (lv_args 0 [.int nn, .int nn]) [] S R _
  refine w_met hP (Nat.zero_le _) mt_X12_powerOf ⟨⟨_, rfl, n1, n2⟩, ⟨_, rfl, n1, (by show nn.toInt ≤ 6; omega)⟩, trivial⟩ hT hO (fun r1 S1 R1 hT1 hO1 hr hF => ?_)
  obtain ⟨u, hr, -, -⟩ := hr
  subst hr
  obtain ⟨rfl, rfl⟩ := v_Fr_nil hF
  show w_T L xs (d + 9) m_X12_nursed 93 [(7, .int (Int32.ofInt (r : Int))), (9, .int k0), (8, .int s0), (6, .int best), (5, .int nn), (4, .int nn), (0, .ref 100), (1, .int sI), (2, .int wI), (3, .int wh)] [.int u, .int (Int32.ofInt (r : Int))] S R Q
  refine w_br (P := u ≤ (Int32.ofInt (r : Int))) rfl (fun _ => rfl) (fun h93 => ?_) (fun h93 => ?_)
  · refine w_st rfl (fun _ => rfl) ?_
    refine w_st rfl (fun _ => rfl) ?_
    show w_T L xs (d + 9) m_X12_nursed 194 [(7, .int (Int32.ofInt (r : Int))), (9, .int k0), (8, .int s0), (6, .int best), (5, .int nn), (4, .int nn), (0, .ref 100), (1, .int sI), (2, .int wI), (3, .int wh)] [.int (Int32.ofInt 20), .int wh] S R Q
    refine w_br (P := ¬ wh = (Int32.ofInt 20)) rfl (fun _ => rfl) (fun h194 => ?_) (fun h194 => ?_)
    · refine w_st rfl (fun _ => rfl) ?_
      show w_T L xs (d + 9) m_X12_nursed 203 [(7, .int (Int32.ofInt (r : Int))), (9, .int k0), (8, .int s0), (6, .int best), (5, .int nn), (4, .int nn), (0, .ref 100), (1, .int sI), (2, .int wI), (3, .int wh)] [.ref 100] S R Q
      refine w_getr rfl v_tyM rfl ?_
      refine w_st rfl (fun _ => rfl) ?_
      show w_T L xs (d + 9) m_X12_nursed 207 [(7, .int (Int32.ofInt (r : Int))), (9, .int k0), (8, .int s0), (6, .int best), (5, .int nn), (4, .int nn), (0, .ref 100), (1, .int sI), (2, .int wI), (3, .int wh)] [.ref 100, .ref 153] S R Q
      refine w_getr rfl v_tyM rfl ?_
      refine w_st rfl (fun _ => rfl) ?_
      refine w_st rfl (fun _ => rfl) ?_
      show w_T L xs (d + 9) m_X12_nursed 212 [(7, .int (Int32.ofInt (r : Int))), (9, .int k0), (8, .int s0), (6, .int best), (5, .int nn), (4, .int nn), (0, .ref 100), (1, .int sI), (2, .int wI), (3, .int wh)] [.int wh, .int wI, .ref 156, .ref 153] S R Q
      refine w_cs rfl (by decide) mt_X12_placeIn (fun _ => rfl) (Nat.le_of_ble_eq_true rfl) (Nat.le_of_ble_eq_true rfl) ?_
      show w_T L xs _ m_X12_placeIn 0 (lv_args 0 [.int wI, .int wh]) [] S R _
      refine h_placeIn _ _ ?_
      have hp := v_pop_and wI ((Int32.ofInt 1 <<< (wh &&& 31)) - Int32.ofInt 1)
      have hp0 : 0 ≤ (v_pop (wI &&& ((Int32.ofInt 1 <<< (wh &&& 31)) - Int32.ofInt 1))).toInt := by rw [v_pop_e]; omega
      have b5 : 0 ≤ (S 155 (v_pop (wI &&& ((Int32.ofInt 1 <<< (wh &&& 31)) - Int32.ofInt 1))).toInt.toNat).toInt ∧ (S 155 (v_pop (wI &&& ((Int32.ofInt 1 <<< (wh &&& 31)) - Int32.ofInt 1))).toInt.toNat).toInt ≤ 4 := t5 _ (by omega)
      show w_T L xs (d + 9) m_X12_nursed 215 [(7, .int (Int32.ofInt (r : Int))), (9, .int k0), (8, .int s0), (6, .int best), (5, .int nn), (4, .int nn), (0, .ref 100), (1, .int sI), (2, .int wI), (3, .int wh)] [.int (v_pop (wI &&& ((Int32.ofInt 1 <<< (wh &&& 31)) - Int32.ofInt 1))), .ref 156, .ref 153] S R Q
      refine w_iald rfl rfl (by omega) (by omega) ?_
      show w_T L xs (d + 9) m_X12_nursed 216 [(7, .int (Int32.ofInt (r : Int))), (9, .int k0), (8, .int s0), (6, .int best), (5, .int nn), (4, .int nn), (0, .ref 100), (1, .int sI), (2, .int wI), (3, .int wh)] [.int (S 155 (v_pop (wI &&& ((Int32.ofInt 1 <<< (wh &&& 31)) - Int32.ofInt 1))).toInt.toNat), .ref 153] S R Q
      refine w_iald rfl rfl (by omega) (by omega) ?_
      show w_T L xs (d + 9) m_X12_nursed 217 [(7, .int (Int32.ofInt (r : Int))), (9, .int k0), (8, .int s0), (6, .int best), (5, .int nn), (4, .int nn), (0, .ref 100), (1, .int sI), (2, .int wI), (3, .int wh)] [.int (S 152 (S 155 (v_pop (wI &&& ((Int32.ofInt 1 <<< (wh &&& 31)) - Int32.ofInt 1))).toInt.toNat).toInt.toNat)] S R Q
      refine w_ret rfl rfl ?_
      exact hq _
    · refine w_st rfl (fun _ => rfl) ?_
      refine w_st rfl (fun _ => rfl) ?_
      show w_T L xs (d + 9) m_X12_nursed 217 [(7, .int (Int32.ofInt (r : Int))), (9, .int k0), (8, .int s0), (6, .int best), (5, .int nn), (4, .int nn), (0, .ref 100), (1, .int sI), (2, .int wI), (3, .int wh)] [.int best] S R Q
      refine w_ret rfl rfl ?_
      exact hq _
  · have r9 : r < 2147483647 := by
      have := (q_rng u).2
      rw [q_le32, er] at h93
      omega
    refine w_st rfl (fun _ => rfl) ?_
    refine w_st rfl (fun _ => rfl) ?_
    refine w_st rfl (fun _ => rfl) ?_
    refine w_st rfl (fun _ => rfl) ?_
    show w_T L xs (d + 9) m_X12_nursed 103 [(7, .int (Int32.ofInt (r : Int))), (9, .int k0), (8, .int s0), (6, .int best), (5, .int nn), (4, .int nn), (0, .ref 100), (1, .int sI), (2, .int wI), (3, .int wh)] [.int nn, .int nn, .int (Int32.ofInt (r : Int)), .ref 100] S R Q
    refine w_cv rfl (by decide) mt_X12_opensRow v_tyM rfl rfl rfl (Nat.le_of_ble_eq_true rfl) (Nat.le_of_ble_eq_true rfl) (Nat.le_of_ble_eq_true rfl) ?_
    show w_T L xs _ m_X12_opensRow 0 (lv_args 0 [.ref 100, .int (Int32.ofInt (r : Int)), .int nn, .int nn]) [] S R _
    refine w_met hW (Nat.zero_le _) mt_X12_opensRow ⟨rfl, ⟨_, rfl, by rw [er]; show (0 : Int) ≤ _; omega, (q_rng _).2⟩, ⟨_, rfl, n1, (by show nn.toInt ≤ 6; omega)⟩, ⟨_, rfl, n1, n2⟩, trivial⟩ hT hO (fun r1 S1 R1 hT1 hO1 hr hF1 => ?_)
    have hr : r1 = none := hr
    subst hr
    have hG1 : v_Fr [(99, 27, 40), (114, 0, 240), (115, 0, 240), (152, 0, 12), (153, 0, 6), (154, 0, 8), (155, 0, 8)] S R S1 R1 := v_Fr_sub (by decide +kernel) hF1
    have hf1 : ∀ j, S1 152 j = S 152 j := fun j => (hF1 152 j (ct j)).1
    refine w_st rfl (fun _ => rfl) ?_
    refine w_st rfl (fun _ => rfl) ?_
    show w_T L xs (d + 9) m_X12_nursed 109 [(7, .int (Int32.ofInt (r : Int))), (9, .int k0), (8, .int s0), (6, .int best), (5, .int nn), (4, .int nn), (0, .ref 100), (1, .int sI), (2, .int wI), (3, .int wh)] [.int nn, .ref 100] S1 R1 Q
    refine w_cv rfl (by decide) mt_X12_isOrder v_tyM rfl rfl rfl (Nat.le_of_ble_eq_true rfl) (Nat.le_of_ble_eq_true rfl) (Nat.le_of_ble_eq_true rfl) ?_
    show w_T L xs _ m_X12_isOrder 0 (lv_args 0 [.ref 100, .int nn]) [] S1 R1 _
    refine h_isOrder S1 R1 nn n1 n2 hT1 (fun o ho => ?_)
    show w_T L xs (d + 9) m_X12_nursed 112 [(7, .int (Int32.ofInt (r : Int))), (9, .int k0), (8, .int s0), (6, .int best), (5, .int nn), (4, .int nn), (0, .ref 100), (1, .int sI), (2, .int wI), (3, .int wh)] [.int o] S1 R1 Q
    refine w_br (P := ¬ o = 0) rfl (fun _ => rfl) (fun h112 => ?_) (fun h112 => ?_)
    · refine w_st rfl (fun _ => rfl) ?_
      refine w_st rfl (fun _ => rfl) ?_
      refine w_st rfl (fun _ => rfl) ?_
      refine w_st rfl (fun _ => rfl) ?_
      show w_T L xs (d + 9) m_X12_nursed 124 [(9, .int (Int32.ofInt 0)), (8, .int (Int32.ofInt 0)), (7, .int (Int32.ofInt (r : Int))), (6, .int best), (5, .int nn), (4, .int nn), (0, .ref 100), (1, .int sI), (2, .int wI), (3, .int wh)] [] S1 R1 Q
      refine h_nI hL nn sI wI wh _ best n2 nn.toInt.toNat 0 S1 R1 _ (by omega) hT1 hO1 (fun j hj => by rw [hf1]; exact hf j hj) (ho.resolve_left (fun e => h112 e)) (fun S2 R2 k2 s2 hT2 hO2 hF2 => ?_)
      have hG2 : v_Fr [(99, 27, 40), (114, 0, 240), (115, 0, 240), (152, 0, 12), (153, 0, 6), (154, 0, 8), (155, 0, 8)] S R S2 R2 := v_Fr_tr hG1 (v_Fr_sub (by decide +kernel) hF2)
      have hf2 : ∀ j, S2 152 j = S 152 j := fun j => by rw [(hF2 152 j (cu j)).1, hf1]
      refine w_st rfl (fun _ => rfl) ?_
      refine w_st rfl (fun _ => rfl) ?_
      show w_T L xs (d + 9) m_X12_nursed 169 [(9, .int k2), (8, .int s2), (7, .int (Int32.ofInt (r : Int))), (6, .int best), (5, .int nn), (4, .int nn), (0, .ref 100), (1, .int sI), (2, .int wI), (3, .int wh)] [.int best, .int s2] S2 R2 Q
      refine w_br (P := s2 < best) rfl (fun _ => rfl) (fun h169 => ?_) (fun h169 => ?_)
      · refine w_st rfl (fun _ => rfl) ?_
        refine w_st rfl (fun _ => rfl) ?_
        refine w_st rfl (fun _ => rfl) ?_
        refine w_st rfl (fun _ => rfl) ?_
        show w_T L xs (d + 9) m_X12_nursed 182 [(6, .int s2), (9, .int k2), (8, .int s2), (7, .int (Int32.ofInt (r : Int))), (5, .int nn), (4, .int nn), (0, .ref 100), (1, .int sI), (2, .int wI), (3, .int wh)] [.int nn, .ref 100] S2 R2 Q
        refine w_cv rfl (by decide) mt_X12_keepsRow v_tyM rfl rfl rfl (Nat.le_of_ble_eq_true rfl) (Nat.le_of_ble_eq_true rfl) (Nat.le_of_ble_eq_true rfl) ?_
        show w_T L xs _ m_X12_keepsRow 0 (lv_args 0 [.ref 100, .int nn]) [] S2 R2 _
        refine w_met hB (Nat.zero_le _) mt_X12_keepsRow ⟨rfl, ⟨_, rfl, n1, (by show nn.toInt ≤ 6; omega)⟩, trivial⟩ hT2 hO2 (fun r1 S3 R3 hT3 hO3 hr hF3 => ?_)
        have hr : r1 = none := hr
        subst hr
        have hG3 : v_Fr [(99, 27, 40), (114, 0, 240), (115, 0, 240), (152, 0, 12), (153, 0, 6), (154, 0, 8), (155, 0, 8)] S R S3 R3 := v_Fr_tr hG2 (v_Fr_sub (by decide +kernel) hF3)
        have hf3 : ∀ j, S3 152 j = S 152 j := fun j => by rw [(hF3 152 j (cv j)).1, hf2]
        refine w_st rfl (fun _ => rfl) ?_
        refine w_st rfl (fun _ => rfl) ?_
        show w_T L xs (d + 9) m_X12_nursed 84 [(7, .int ((Int32.ofInt (r : Int)) + Int32.ofInt 1)), (6, .int s2), (9, .int k2), (8, .int s2), (5, .int nn), (4, .int nn), (0, .ref 100), (1, .int sI), (2, .int wI), (3, .int wh)] [] S3 R3 Q
        refine w_lc (b := [(7, .int ((Int32.ofInt (r : Int)) + Int32.ofInt 1)), (9, .int k2), (8, .int s2), (6, .int s2), (5, .int nn), (4, .int nn), (0, .ref 100), (1, .int sI), (2, .int wI), (3, .int wh)]) (show ([7, 6, 9, 8, 5, 4, 0, 1, 2, 3] : List Nat).Nodup by decide) (show ([7, 9, 8, 6, 5, 4, 0, 1, 2, 3] : List Nat).Nodup by decide) (fun i => match i with | 0 => rfl | 1 => rfl | 2 => rfl | 3 => rfl | 4 => rfl | 5 => rfl | 6 => rfl | 7 => rfl | 8 => rfl | 9 => rfl | _ + 10 => rfl) ?_
        rw [w_inc]
        exact K2 r9 S3 R3 _ _ _ hT3 hO3 hG3 hf3
      · refine w_st rfl (fun _ => rfl) ?_
        refine w_st rfl (fun _ => rfl) ?_
        refine w_st rfl (fun _ => rfl) ?_
        show w_T L xs (d + 9) m_X12_nursed 84 [(7, .int ((Int32.ofInt (r : Int)) + Int32.ofInt 1)), (9, .int k2), (8, .int s2), (6, .int best), (5, .int nn), (4, .int nn), (0, .ref 100), (1, .int sI), (2, .int wI), (3, .int wh)] [] S2 R2 Q
        rw [w_inc]
        exact K2 r9 S2 R2 _ _ _ hT2 hO2 hG2 hf2
    · refine w_st rfl (fun _ => rfl) ?_
      refine w_st rfl (fun _ => rfl) ?_
      refine w_st rfl (fun _ => rfl) ?_
      show w_T L xs (d + 9) m_X12_nursed 84 [(7, .int ((Int32.ofInt (r : Int)) + Int32.ofInt 1)), (9, .int k0), (8, .int s0), (6, .int best), (5, .int nn), (4, .int nn), (0, .ref 100), (1, .int sI), (2, .int wI), (3, .int wh)] [] S1 R1 Q
      rw [w_inc]
      exact K1 r9 S1 R1 hT1 hO1 hG1 hf1
theorem h_nOB (hL : v_Met L xs v_ty v_Op 204 rw_191) (hW : v_Met L xs v_ty v_Op 254 rw_224) (hB : v_Met L xs v_ty v_Op 255 rw_225) (hP : v_Met L xs v_ty v_Op 253 rw_223) (nn sI wI wh : Int32) (n1 : 1 ≤ nn.toInt) (n2 : nn.toInt ≤ 5) (hw : (v_pop wI).toInt ≤ 6) : ∀ (c r : Nat) (S : v_Sf) (R : v_Rf) (best k0 s0 : Int32), r + c = 2147483647 → v_Tb v_ty S R → v_Op S → (∀ j : Nat, (j : Int) < nn.toInt → (S 152 j).toInt ≤ 4) → (∀ (S' : v_Sf) (R' : v_Rf) (v : Int32), v_Tb v_ty S' R' → v_Op S' → v_Fr [(99, 27, 40), (114, 0, 240), (115, 0, 240), (152, 0, 12), (153, 0, 6), (154, 0, 8), (155, 0, 8)] S R S' R' → Q (some (.int v)) S' R') → w_T L xs (d + 9) m_X12_nursed 84 [(7, .int (Int32.ofInt (r : Int))), (9, .int k0), (8, .int s0), (6, .int best), (5, .int nn), (4, .int nn), (0, .ref 100), (1, .int sI), (2, .int wI), (3, .int wh)] [] S R Q := by
  intro c
  induction c with
  | zero =>
    intro r S R best k0 s0 hc hT hO hf hq
    exact h_nbB hL hW hB hP nn sI wI wh best k0 s0 n1 n2 hw r (by omega) S R hT hO hf (fun v => hq S R v hT hO (v_Fr_rf _ _ _)) (fun h => absurd h (by omega)) (fun h => absurd h (by omega))
  | succ c ih =>
    intro r S R best k0 s0 hc hT hO hf hq
    exact h_nbB hL hW hB hP nn sI wI wh best k0 s0 n1 n2 hw r (by omega) S R hT hO hf (fun v => hq S R v hT hO (v_Fr_rf _ _ _))
      (fun _ S1 R1 a1 a2 a3 a4 => ih (r + 1) S1 R1 best k0 s0 (by omega) a1 a2 (fun j hj => by rw [a4]; exact hf j hj) (fun S2 R2 v b1 b2 b3 => hq S2 R2 v b1 b2 (v_Fr_tr a3 b3)))
      (fun _ S1 R1 b k s a1 a2 a3 a4 => ih (r + 1) S1 R1 b k s (by omega) a1 a2 (fun j hj => by rw [a4]; exact hf j hj) (fun S2 R2 v b1 b2 b3 => hq S2 R2 v b1 b2 (v_Fr_tr a3 b3)))
theorem h_nOA (hL : v_Met L xs v_ty v_Op 204 rw_191) (hW : v_Met L xs v_ty v_Op 254 rw_224) (hB : v_Met L xs v_ty v_Op 255 rw_225) (hP : v_Met L xs v_ty v_Op 253 rw_223) (nn sI wI wh : Int32) (n1 : 1 ≤ nn.toInt) (n2 : nn.toInt ≤ 5) (hw : (v_pop wI).toInt ≤ 6) : ∀ (c r : Nat) (S : v_Sf) (R : v_Rf) (best k0 s0 : Int32), r + c = 2147483647 → v_Tb v_ty S R → v_Op S → (∀ j : Nat, (j : Int) < nn.toInt → (S 152 j).toInt ≤ 4) → (∀ (S' : v_Sf) (R' : v_Rf) (v : Int32), v_Tb v_ty S' R' → v_Op S' → v_Fr [(99, 27, 40), (114, 0, 240), (115, 0, 240), (152, 0, 12), (153, 0, 6), (154, 0, 8), (155, 0, 8)] S R S' R' → Q (some (.int v)) S' R') → w_T L xs (d + 9) m_X12_nursed 84 [(7, .int (Int32.ofInt (r : Int))), (6, .int best), (5, .int nn), (4, .int nn), (0, .ref 100), (1, .int sI), (2, .int wI), (3, .int wh)] [] S R Q := by
  intro c
  induction c with
  | zero =>
    intro r S R best k0 s0 hc hT hO hf hq
    exact h_nbA hL hW hB hP nn sI wI wh best k0 s0 n1 n2 hw r (by omega) S R hT hO hf (fun v => hq S R v hT hO (v_Fr_rf _ _ _)) (fun h => absurd h (by omega)) (fun h => absurd h (by omega))
  | succ c ih =>
    intro r S R best k0 s0 hc hT hO hf hq
    exact h_nbA hL hW hB hP nn sI wI wh best k0 s0 n1 n2 hw r (by omega) S R hT hO hf (fun v => hq S R v hT hO (v_Fr_rf _ _ _))
      (fun _ S1 R1 a1 a2 a3 a4 => ih (r + 1) S1 R1 best k0 s0 (by omega) a1 a2 (fun j hj => by rw [a4]; exact hf j hj) (fun S2 R2 v b1 b2 b3 => hq S2 R2 v b1 b2 (v_Fr_tr a3 b3)))
      (fun _ S1 R1 b k s a1 a2 a3 a4 => h_nOB hL hW hB hP nn sI wI wh n1 n2 hw c (r + 1) S1 R1 b k s (by omega) a1 a2 (fun j hj => by rw [a4]; exact hf j hj) (fun S2 R2 v b1 b2 b3 => hq S2 R2 v b1 b2 (v_Fr_tr a3 b3)))
theorem h_sizeOfO {L : Nat} {xs : Nat → Int32} {d : Nat} {Q : Option Value → v_Sf → v_Rf → Prop} {S : v_Sf} {R : v_Rf} (a : Int32) (hq : ∀ u : Int32, u = v_pop a → Q (some (.int u)) S R) : w_T L xs d m_X12_sizeOf 0 (lv_args 0 [.int a]) [] S R Q := h_sizeOf a (hq _ rfl)
theorem h_lies01 {L : Nat} {xs : Nat → Int32} {d : Nat} {Q : Option Value → v_Sf → v_Rf → Prop} {S : v_Sf} {R : v_Rf} (a b c : Int64) (hq : ∀ u : Int32, (u = 0 ∨ u = 1) → Q (some (.int u)) S R) : w_T L xs d m_X12_lies 0 (lv_args 0 [.long a, .long b, .long c]) [] S R Q := by
  refine h_lies a b c (hq _ ?_)
  by_cases h : b.toInt ≤ a.toInt ∧ a.toInt ≤ c.toInt
  · exact Or.inr (if_pos h)
  · exact Or.inl (if_neg h)
theorem h_isWardO {L : Nat} {xs : Nat → Int32} {d : Nat} {Q : Option Value → v_Sf → v_Rf → Prop} {S : v_Sf} {R : v_Rf} (a : Int32) (hq : ∀ u : Int32, Q (some (.int u)) S R) : w_T L xs (d + 1) m_X12_isWard 0 (lv_args 0 [.int a]) [] S R Q := by
  refine w_st rfl (fun _ => rfl) ?_
  refine w_st rfl (fun _ => rfl) ?_
  refine w_st rfl (fun _ => rfl) ?_
  refine w_st rfl (fun _ => rfl) ?_
  show w_T L xs (d + 1) m_X12_isWard 6 [(0, .int a)] [.long (Int64.ofInt 5), .long (Int64.ofNat 0), .long a.toInt64] S R Q
  refine w_cs rfl (by decide) mt_X12_lies (fun _ => rfl) (Nat.le_of_ble_eq_true rfl) (Nat.le_of_ble_eq_true rfl) ?_
  show w_T L xs _ m_X12_lies 0 (lv_args 0 [.long a.toInt64, .long (Int64.ofNat 0), .long (Int64.ofInt 5)]) [] S R _
  refine h_lies01 _ _ _ (fun w hw => ?_)
  show w_T L xs (d + 1) m_X12_isWard 9 [(0, .int a)] [.int w] S R Q
  rcases hw with rfl | rfl
  · refine w_ret rfl (by rfl) ?_
    exact hq _
  · refine w_ret rfl (by rfl) ?_
    exact hq _
theorem hr_X12_nursed {L : Nat} {xs : Nat → Int32} (ih : ∀ x, ∀ w ∈ v_rw x, w.1 < rw_262.1 → v_Met L xs v_ty v_Op x w) : v_Met L xs v_ty v_Op 288 rw_262 := by
  have hL := ih 204 rw_191 (List.mem_of_getElem? (i := 0) rfl) (Nat.le_of_ble_eq_true rfl)
  have hW := ih 254 rw_224 (List.mem_of_getElem? (i := 0) rfl) (Nat.le_of_ble_eq_true rfl)
  have hB := ih 255 rw_225 (List.mem_of_getElem? (i := 0) rfl) (Nat.le_of_ble_eq_true rfl)
  have hP := ih 253 rw_223 (List.mem_of_getElem? (i := 0) rfl) (Nat.le_of_ble_eq_true rfl)
  have hN := ih 287 rw_261 (List.mem_of_getElem? (i := 0) rfl) (Nat.le_of_ble_eq_true rfl)
  intro M hM ac S R ha hT hO
  rw [mt_X12_nursed] at hM
  cases hM
  match ac, ha with
  | [r0, w1, w2, w3], ⟨h0, ⟨sI, hg1, _, _⟩, ⟨wI, hg2, _, _⟩, ⟨wh, hg3, _, _⟩, _⟩ =>
  have h0 : r0 = .ref 100 := h0
  subst h0 hg1 hg2 hg3
  show w_T L xs 12 m_X12_nursed 0 (lv_args 0 [.ref 100, .int sI, .int wI, .int wh]) [] S R (fun r S' R' => v_Tb v_ty S' R' ∧ v_Op S' ∧ v_rk1 (some ((-2147483648), 2147483647)) r ∧ v_Fr [(99, 27, 40), (114, 0, 240), (115, 0, 240), (152, 0, 12), (153, 0, 6), (154, 0, 8), (155, 0, 8)] S R S' R')
  generalize hQ : (fun (r : Option Value) (S' : v_Sf) (R' : v_Rf) => v_Tb v_ty S' R' ∧ v_Op S' ∧ v_rk1 (some ((-2147483648), 2147483647)) r ∧ v_Fr [(99, 27, 40), (114, 0, 240), (115, 0, 240), (152, 0, 12), (153, 0, 6), (154, 0, 8), (155, 0, 8)] S R S' R') = Q
  have hq : ∀ (S' : v_Sf) (R' : v_Rf) (v : Int32), v_Tb v_ty S' R' → v_Op S' → v_Fr [(99, 27, 40), (114, 0, 240), (115, 0, 240), (152, 0, 12), (153, 0, 6), (154, 0, 8), (155, 0, 8)] S R S' R' → Q (some (.int v)) S' R' := fun S' R' v a1 a2 a3 => by
    rw [← hQ]
    exact ⟨a1, a2, ⟨v, rfl, (q_rng v).1, (q_rng v).2⟩, a3⟩
  have c3 : ∀ j, j ≤ 12 → v_md [(99, 27, 40), (114, 0, 240), (115, 0, 240), (152, 0, 12), (153, 0, 6), (154, 0, 8), (155, 0, 8)] 152 j j = true := fun j hj => v_md_mono (lo := 0) (hi := 12) (by decide +kernel) (Nat.zero_le _) hj
  have c4 : ∀ j, j ≤ 6 → v_md [(99, 27, 40), (114, 0, 240), (115, 0, 240), (152, 0, 12), (153, 0, 6), (154, 0, 8), (155, 0, 8)] 153 j j = true := fun j hj => v_md_mono (lo := 0) (hi := 6) (by decide +kernel) (Nat.zero_le _) hj
  have f3 : ∀ j, v_frz 152 j j = false := fun j => rfl
  have f4 : ∀ j, v_frz 153 j j = false := fun j => rfl
  have e1 : (Int32.ofInt 1).toInt = 1 := by decide
  have l1 : (Int64.ofNat 1).toInt = 1 := by decide
  have l63 : (Int64.ofInt 63).toInt = 63 := by decide
  refine w_st rfl (fun _ => rfl) ?_
  refine w_st rfl (fun _ => rfl) ?_
  show w_T L xs 12 m_X12_nursed 2 [(0, .ref 100), (1, .int sI), (2, .int wI), (3, .int wh)] [.int (Int32.ofInt 1), .int sI] S R Q
  refine w_br (P := sI < (Int32.ofInt 1)) rfl (fun _ => rfl) (fun h2 => ?_) (fun h2 => ?_)
  · refine w_st rfl (fun _ => rfl) ?_
    show w_T L xs 12 m_X12_nursed 61 [(0, .ref 100), (1, .int sI), (2, .int wI), (3, .int wh)] [.int (Int32.ofInt (-1))] S R Q
    refine w_ret rfl rfl ?_
    exact hq S R _ hT hO (v_Fr_rf _ _ _)
  · have s1 : 1 ≤ sI.toInt := by rw [q_lt32, e1] at h2; omega
    refine w_st rfl (fun _ => rfl) ?_
    refine w_st rfl (fun _ => rfl) ?_
    show w_T L xs 12 m_X12_nursed 7 [(0, .ref 100), (1, .int sI), (2, .int wI), (3, .int wh)] [.ref 100, .int sI] S R Q
    refine w_cv rfl (by decide) mt_X12_toldNurses v_tyM rfl rfl rfl (Nat.le_of_ble_eq_true rfl) (Nat.le_of_ble_eq_true rfl) (Nat.le_of_ble_eq_true rfl) ?_
    show w_T L xs _ m_X12_toldNurses 0 (lv_args 0 [.ref 100]) [] S R _
    refine w_met hN (Nat.zero_le _) mt_X12_toldNurses ⟨rfl, trivial⟩ hT hO (fun r S1 R1 hT1 hO1 hr hF => ?_)
    obtain ⟨u, hr, u1, u2⟩ := hr
    subst hr
    obtain ⟨rfl, rfl⟩ := v_Fr_nil hF
    refine w_st rfl (fun _ => rfl) ?_
    refine w_st rfl (fun _ => rfl) ?_
    refine w_st rfl (fun _ => rfl) ?_
    show w_T L xs 12 m_X12_nursed 13 [(0, .ref 100), (1, .int sI), (2, .int wI), (3, .int wh)] [.int (sI &&& (u ^^^ (Int32.ofInt (-1))))] S R Q
    refine w_br (P := ¬ (sI &&& (u ^^^ (Int32.ofInt (-1)))) = 0) rfl (fun _ => rfl) (fun h13 => ?_) (fun h13 => ?_)
    · refine w_st rfl (fun _ => rfl) ?_
      show w_T L xs 12 m_X12_nursed 61 [(0, .ref 100), (1, .int sI), (2, .int wI), (3, .int wh)] [.int (Int32.ofInt (-1))] S R Q
      refine w_ret rfl rfl ?_
      exact hq S R _ hT hO (v_Fr_rf _ _ _)
    · have s2 : sI.toInt ≤ u.toInt := v_andnot (by omega) u1 (Classical.byContradiction (fun hn => h13 hn))
      have u2 : u.toInt ≤ 31 := u2
      refine w_st rfl (fun _ => rfl) ?_
      refine w_st rfl (fun _ => rfl) ?_
      refine w_st rfl (fun _ => rfl) ?_
      refine w_st rfl (fun _ => rfl) ?_
      show w_T L xs 12 m_X12_nursed 22 [(0, .ref 100), (1, .int sI), (2, .int wI), (3, .int wh)] [.long (Int64.ofInt 63), .long (Int64.ofNat 1), .long wI.toInt64] S R Q
      refine w_cs rfl (by decide) mt_X12_lies (fun _ => rfl) (Nat.le_of_ble_eq_true rfl) (Nat.le_of_ble_eq_true rfl) ?_
      show w_T L xs _ m_X12_lies 0 (lv_args 0 [.long wI.toInt64, .long (Int64.ofNat 1), .long (Int64.ofInt 63)]) [] S R _
      refine h_liesO _ _ _ (fun w hw => ?_)
      show w_T L xs 12 m_X12_nursed 25 [(0, .ref 100), (1, .int sI), (2, .int wI), (3, .int wh)] [.int w] S R Q
      refine w_br (P := w = 0) rfl (fun _ => rfl) (fun h25 => ?_) (fun h25 => ?_)
      · refine w_st rfl (fun _ => rfl) ?_
        show w_T L xs 12 m_X12_nursed 61 [(0, .ref 100), (1, .int sI), (2, .int wI), (3, .int wh)] [.int (Int32.ofInt (-1))] S R Q
        refine w_ret rfl rfl ?_
        exact hq S R _ hT hO (v_Fr_rf _ _ _)
      · have hc := hw.resolve_left h25
        rw [Int32.toInt_toInt64, l1, l63] at hc
        refine w_st rfl (fun _ => rfl) ?_
        show w_T L xs 12 m_X12_nursed 29 [(0, .ref 100), (1, .int sI), (2, .int wI), (3, .int wh)] [.int sI] S R Q
        refine w_cs rfl (by decide) mt_X12_sizeOf (fun _ => rfl) (Nat.le_of_ble_eq_true rfl) (Nat.le_of_ble_eq_true rfl) ?_
        show w_T L xs _ m_X12_sizeOf 0 (lv_args 0 [.int sI]) [] S R _
        refine h_sizeOfO _ (fun pa epa => ?_)
        refine w_st rfl (fun _ => rfl) ?_
        show w_T L xs 12 m_X12_nursed 33 [(0, .ref 100), (1, .int sI), (2, .int wI), (3, .int wh)] [.int wI, .int pa] S R Q
        refine w_cs rfl (by decide) mt_X12_sizeOf (fun _ => rfl) (Nat.le_of_ble_eq_true rfl) (Nat.le_of_ble_eq_true rfl) ?_
        show w_T L xs _ m_X12_sizeOf 0 (lv_args 0 [.int wI]) [] S R _
        refine h_sizeOfO _ (fun pb epb => ?_)
        show w_T L xs 12 m_X12_nursed 36 [(0, .ref 100), (1, .int sI), (2, .int wI), (3, .int wh)] [.int pb, .int pa] S R Q
        refine w_br (P := ¬ pa = pb) rfl (fun _ => rfl) (fun h36 => ?_) (fun h36 => ?_)
        · refine w_st rfl (fun _ => rfl) ?_
          show w_T L xs 12 m_X12_nursed 61 [(0, .ref 100), (1, .int sI), (2, .int wI), (3, .int wh)] [.int (Int32.ofInt (-1))] S R Q
          refine w_ret rfl rfl ?_
          exact hq S R _ hT hO (v_Fr_rf _ _ _)
        · have hpp : v_pop sI = v_pop wI := by rw [← epa, ← epb]; exact Decidable.of_not_not h36
          have n1 : 1 ≤ (v_pop wI).toInt := (v_pop_ok (x := wI) (p := (1, 63)) hc (by decide)).1
          have n2 : (v_pop wI).toInt ≤ 5 := by rw [← hpp]; exact (v_pop_ok (x := sI) (p := (1, 31)) ⟨s1, (by show sI.toInt ≤ 31; omega)⟩ (by decide)).2
          refine w_st rfl (fun _ => rfl) ?_
          refine w_st rfl (fun _ => rfl) ?_
          show w_T L xs 12 m_X12_nursed 42 [(0, .ref 100), (1, .int sI), (2, .int wI), (3, .int wh)] [.int (Int32.ofInt 20), .int wh] S R Q
          refine w_br (P := wh = (Int32.ofInt 20)) rfl (fun _ => rfl) (fun h42 => ?_) (fun h42 => ?_)
          · refine w_st rfl (fun _ => rfl) ?_
            refine w_st rfl (fun _ => rfl) ?_
            show w_T L xs 12 m_X12_nursed 64 [(0, .ref 100), (1, .int sI), (2, .int wI), (3, .int wh)] [.int wI, .ref 100] S R Q
            refine w_cv rfl (by decide) mt_X12_takesPlaces v_tyM rfl rfl rfl (Nat.le_of_ble_eq_true rfl) (Nat.le_of_ble_eq_true rfl) (Nat.le_of_ble_eq_true rfl) ?_
            show w_T L xs _ m_X12_takesPlaces 0 (lv_args 0 [.ref 100, .int wI]) [] S R _
            refine h_X12_takesPlaces (d := 10) wI S (by omega) (by omega) hT (fun S1 hT1 hS1 => ?_)
            have hO1 : v_Op S1 := v_fz_ok.1 S S1 (fun a j hf => hS1 a j (fun e => by rw [e.1, f4] at hf; cases hf)) hO
            have hF1 : v_Fr [(99, 27, 40), (114, 0, 240), (115, 0, 240), (152, 0, 12), (153, 0, 6), (154, 0, 8), (155, 0, 8)] S R S1 R := fun a j hm => ⟨hS1 a j (fun e => by rw [e.1, c4 j e.2] at hm; cases hm), rfl⟩
            refine w_st rfl (fun _ => rfl) ?_
            refine w_st rfl (fun _ => rfl) ?_
            refine w_st rfl (fun _ => rfl) ?_
            show w_T L xs 12 m_X12_nursed 71 [(4, .int (v_pop wI)), (0, .ref 100), (1, .int sI), (2, .int wI), (3, .int wh)] [.int sI, .ref 100] S1 R Q
            refine w_cv rfl (by decide) mt_X12_takesSome v_tyM rfl rfl rfl (Nat.le_of_ble_eq_true rfl) (Nat.le_of_ble_eq_true rfl) (Nat.le_of_ble_eq_true rfl) ?_
            show w_T L xs _ m_X12_takesSome 0 (lv_args 0 [.ref 100, .int sI]) [] S1 R _
            refine h_ts5 (d := 10) sI S1 (by omega) (by omega) hT1 (fun S2 hT2 hS2 hf2 => ?_)
            have hO2 : v_Op S2 := v_fz_ok.1 S1 S2 (fun a j hf => hS2 a j (fun e => by rw [e.1, f3] at hf; cases hf)) hO1
            have hF2 : v_Fr [(99, 27, 40), (114, 0, 240), (115, 0, 240), (152, 0, 12), (153, 0, 6), (154, 0, 8), (155, 0, 8)] S R S2 R := v_Fr_tr hF1 (fun a j hm => ⟨hS2 a j (fun e => by rw [e.1, c3 j e.2] at hm; cases hm), rfl⟩)
            rw [hpp] at hf2 ⊢
            refine w_st rfl (fun _ => rfl) ?_
            refine w_st rfl (fun _ => rfl) ?_
            refine w_st rfl (fun _ => rfl) ?_
            refine w_st rfl (fun _ => rfl) ?_
            refine w_st rfl (fun _ => rfl) ?_
            show w_T L xs 12 m_X12_nursed 84 [(7, .int (Int32.ofInt 0)), (6, .int (Int32.ofInt 1000000000)), (5, .int (v_pop wI)), (4, .int (v_pop wI)), (0, .ref 100), (1, .int sI), (2, .int wI), (3, .int wh)] [] S2 R Q
            exact h_nOA (d := 3) hL hW hB hP (v_pop wI) sI wI wh n1 n2 (by omega) 2147483647 0 S2 R _ 0 0 (Nat.zero_add _) hT2 hO2 hf2 (fun S3 R3 v a1 a2 a3 => hq S3 R3 v a1 a2 (v_Fr_tr hF2 a3))
          · refine w_st rfl (fun _ => rfl) ?_
            show w_T L xs 12 m_X12_nursed 46 [(0, .ref 100), (1, .int sI), (2, .int wI), (3, .int wh)] [.int wh] S R Q
            refine w_cs rfl (by decide) mt_X12_isWard (fun _ => rfl) (Nat.le_of_ble_eq_true rfl) (Nat.le_of_ble_eq_true rfl) ?_
            show w_T L xs _ m_X12_isWard 0 (lv_args 0 [.int wh]) [] S R _
            refine h_isWardO (d := 10) _ (fun wq => ?_)
            show w_T L xs 12 m_X12_nursed 49 [(0, .ref 100), (1, .int sI), (2, .int wI), (3, .int wh)] [.int wq] S R Q
            refine w_br (P := wq = 0) rfl (fun _ => rfl) (fun h49 => ?_) (fun h49 => ?_)
            · refine w_st rfl (fun _ => rfl) ?_
              show w_T L xs 12 m_X12_nursed 61 [(0, .ref 100), (1, .int sI), (2, .int wI), (3, .int wh)] [.int (Int32.ofInt (-1))] S R Q
              refine w_ret rfl rfl ?_
              exact hq S R _ hT hO (v_Fr_rf _ _ _)
            · refine w_st rfl (fun _ => rfl) ?_
              refine w_st rfl (fun _ => rfl) ?_
              show w_T L xs 12 m_X12_nursed 54 [(0, .ref 100), (1, .int sI), (2, .int wI), (3, .int wh)] [.int wh, .int wI] S R Q
              refine w_cs rfl (by decide) mt_X12_has (fun _ => rfl) (Nat.le_of_ble_eq_true rfl) (Nat.le_of_ble_eq_true rfl) ?_
              show w_T L xs _ m_X12_has 0 (lv_args 0 [.int wI, .int wh]) [] S R _
              refine h_has _ _ ?_
              generalize (if wI >>> (wh &&& 31) &&& 1 = 1 then (1 : Int32) else 0) = hv
              show w_T L xs 12 m_X12_nursed 57 [(0, .ref 100), (1, .int sI), (2, .int wI), (3, .int wh)] [.int hv] S R Q
              refine w_br (P := ¬ hv = 0) rfl (fun _ => rfl) (fun h57 => ?_) (fun h57 => ?_)
              · refine w_st rfl (fun _ => rfl) ?_
                refine w_st rfl (fun _ => rfl) ?_
                show w_T L xs 12 m_X12_nursed 64 [(0, .ref 100), (1, .int sI), (2, .int wI), (3, .int wh)] [.int wI, .ref 100] S R Q
                refine w_cv rfl (by decide) mt_X12_takesPlaces v_tyM rfl rfl rfl (Nat.le_of_ble_eq_true rfl) (Nat.le_of_ble_eq_true rfl) (Nat.le_of_ble_eq_true rfl) ?_
                show w_T L xs _ m_X12_takesPlaces 0 (lv_args 0 [.ref 100, .int wI]) [] S R _
                refine h_X12_takesPlaces (d := 10) wI S (by omega) (by omega) hT (fun S1 hT1 hS1 => ?_)
                have hO1 : v_Op S1 := v_fz_ok.1 S S1 (fun a j hf => hS1 a j (fun e => by rw [e.1, f4] at hf; cases hf)) hO
                have hF1 : v_Fr [(99, 27, 40), (114, 0, 240), (115, 0, 240), (152, 0, 12), (153, 0, 6), (154, 0, 8), (155, 0, 8)] S R S1 R := fun a j hm => ⟨hS1 a j (fun e => by rw [e.1, c4 j e.2] at hm; cases hm), rfl⟩
                refine w_st rfl (fun _ => rfl) ?_
                refine w_st rfl (fun _ => rfl) ?_
                refine w_st rfl (fun _ => rfl) ?_
                show w_T L xs 12 m_X12_nursed 71 [(4, .int (v_pop wI)), (0, .ref 100), (1, .int sI), (2, .int wI), (3, .int wh)] [.int sI, .ref 100] S1 R Q
                refine w_cv rfl (by decide) mt_X12_takesSome v_tyM rfl rfl rfl (Nat.le_of_ble_eq_true rfl) (Nat.le_of_ble_eq_true rfl) (Nat.le_of_ble_eq_true rfl) ?_
                show w_T L xs _ m_X12_takesSome 0 (lv_args 0 [.ref 100, .int sI]) [] S1 R _
                refine h_ts5 (d := 10) sI S1 (by omega) (by omega) hT1 (fun S2 hT2 hS2 hf2 => ?_)
                have hO2 : v_Op S2 := v_fz_ok.1 S1 S2 (fun a j hf => hS2 a j (fun e => by rw [e.1, f3] at hf; cases hf)) hO1
                have hF2 : v_Fr [(99, 27, 40), (114, 0, 240), (115, 0, 240), (152, 0, 12), (153, 0, 6), (154, 0, 8), (155, 0, 8)] S R S2 R := v_Fr_tr hF1 (fun a j hm => ⟨hS2 a j (fun e => by rw [e.1, c3 j e.2] at hm; cases hm), rfl⟩)
                rw [hpp] at hf2 ⊢
                refine w_st rfl (fun _ => rfl) ?_
                refine w_st rfl (fun _ => rfl) ?_
                refine w_st rfl (fun _ => rfl) ?_
                refine w_st rfl (fun _ => rfl) ?_
                refine w_st rfl (fun _ => rfl) ?_
                show w_T L xs 12 m_X12_nursed 84 [(7, .int (Int32.ofInt 0)), (6, .int (Int32.ofInt 1000000000)), (5, .int (v_pop wI)), (4, .int (v_pop wI)), (0, .ref 100), (1, .int sI), (2, .int wI), (3, .int wh)] [] S2 R Q
                exact h_nOA (d := 3) hL hW hB hP (v_pop wI) sI wI wh n1 n2 (by omega) 2147483647 0 S2 R _ 0 0 (Nat.zero_add _) hT2 hO2 hf2 (fun S3 R3 v a1 a2 a3 => hq S3 R3 v a1 a2 (v_Fr_tr hF2 a3))
              · refine w_st rfl (fun _ => rfl) ?_
                show w_T L xs 12 m_X12_nursed 61 [(0, .ref 100), (1, .int sI), (2, .int wI), (3, .int wh)] [.int (Int32.ofInt (-1))] S R Q
                refine w_ret rfl rfl ?_
                exact hq S R _ hT hO (v_Fr_rf _ _ _)
end NU
end Prt39b
section Prt39c
/-! round: the search along the table -/
noncomputable abbrev m_X12_round : g_M := (g_cn 12, yX12_round, cX12_round, 8, (some .int), g_look2 ttX12_round)
set_option maxRecDepth 20000 in
theorem mt_X12_round : g_mt 290 = some m_X12_round := rfl
noncomputable def v_rg (S : v_Sf) (m : Nat) : Prop := ∀ b l : Nat, 1 ≤ b → b < 2 ^ m - 1 → l < m → ¬ S 171 (8 * b + l) = 0 → ∃ k, 1 ≤ k ∧ k < m ∧ b / 2 ^ k % 2 = 0 ∧ ¬ S 172 (8 * l + k) = 0 ∧ ¬ S 171 (8 * (b + 2 ^ k) + k) = 0
noncomputable def v_t1 (b k : Nat) : Bool := bif decide (b / 2 ^ k % 2 = 0) then decide ((Int32.ofInt (b : Int) ||| (Int32.ofInt 1 <<< (Int32.ofInt (k : Int) &&& 31))) = Int32.ofInt ((b + 2 ^ k : Nat) : Int)) && decide (v_popN 8 (b + 2 ^ k) = v_popN 8 b + 1) && (List.range 9).all (fun m => bif decide (b < 2 ^ m) && decide (k < m) then decide (b + 2 ^ k < 2 ^ m) else true) else true
theorem v_t1_ok : ((List.range 256).all (fun b => (List.range 8).all (fun k => v_t1 b k))) = true := by decide +kernel
noncomputable def v_t2 (b m : Nat) : Bool := bif decide (b < 2 ^ m) && decide (v_popN 8 b < m) then decide (b < 2 ^ m - 1) else true
theorem v_t2_ok : ((List.range 256).all (fun b => (List.range 9).all (fun m => v_t2 b m))) = true := by decide +kernel
theorem v_t1_at {b k m : Nat} (h1 : b < 256) (h2 : k < 8) (h3 : b / 2 ^ k % 2 = 0) (hm : m ≤ 8) (h4 : b < 2 ^ m) (h5 : k < m) : (Int32.ofInt (b : Int) ||| (Int32.ofInt 1 <<< (Int32.ofInt (k : Int) &&& 31))) = Int32.ofInt ((b + 2 ^ k : Nat) : Int) ∧ v_popN 8 (b + 2 ^ k) = v_popN 8 b + 1 ∧ b + 2 ^ k < 2 ^ m := by
  have k1 := List.all_eq_true.mp v_t1_ok b (List.mem_range.mpr h1)
  have k2 := List.all_eq_true.mp k1 k (List.mem_range.mpr h2)
  unfold v_t1 at k2
  rw [decide_eq_true h3, cond_true, Bool.and_eq_true, Bool.and_eq_true] at k2
  have k3 := List.all_eq_true.mp k2.2 m (List.mem_range.mpr (by omega))
  rw [decide_eq_true h4, decide_eq_true h5, Bool.and_true, cond_true] at k3
  exact ⟨of_decide_eq_true k2.1.1, of_decide_eq_true k2.1.2, of_decide_eq_true k3⟩
theorem v_t2_at {b m : Nat} (h1 : b < 256) (hm : m ≤ 8) (h4 : b < 2 ^ m) (h5 : v_popN 8 b < m) : b < 2 ^ m - 1 := by
  have k1 := List.all_eq_true.mp v_t2_ok b (List.mem_range.mpr h1)
  have k2 := List.all_eq_true.mp k1 m (List.mem_range.mpr (by omega))
  unfold v_t2 at k2
  rw [decide_eq_true h4, decide_eq_true h5, Bool.and_true, cond_true] at k2
  exact of_decide_eq_true k2
theorem v_m8 {b k : Nat} (hb : b < 1000) (hk : k < 1000) : Int32.ofInt 8 * Int32.ofInt (b : Int) + Int32.ofInt (k : Int) = Int32.ofInt ((8 * b + k : Nat) : Int) := by
  rw [← Int32.ofInt_mul, ← Int32.ofInt_add]
  rfl
section RO
variable {L : Nat} {xs : Nat → Int32} {d : Nat} {Q : Option Value → v_Sf → v_Rf → Prop}
theorem h_rK (S : v_Sf) (R : v_Rf) (nn sI wh iI : Int32) (m b l k9 : Nat) (hm : m ≤ 8) (b1 : b < 256) (bm : b < 2 ^ m) (hl : l < 8) (k1 : k9 < m) (k2 : b / 2 ^ k9 % 2 = 0) (k3 : ¬ S 172 (8 * l + k9) = 0) (k4 : ¬ S 171 (8 * (b + 2 ^ k9) + k9) = 0) (K : ∀ k : Nat, 1 ≤ k → k < m → b / 2 ^ k % 2 = 0 → ¬ S 171 (8 * (b + 2 ^ k) + k) = 0 → w_T L xs (d + 1) m_X12_round 154 [(7, .int (Int32.ofInt (k : Int))), (6, .int iI), (5, .int (Int32.ofInt (l : Int))), (4, .int (Int32.ofInt (b : Int))), (3, .int nn), (0, .ref 100), (1, .int sI), (2, .int wh)] [] S R Q) : ∀ (c k : Nat), k + c = k9 → 1 ≤ k → w_T L xs (d + 1) m_X12_round 101 [(7, .int (Int32.ofInt (k : Int))), (6, .int iI), (5, .int (Int32.ofInt (l : Int))), (4, .int (Int32.ofInt (b : Int))), (3, .int nn), (0, .ref 100), (1, .int sI), (2, .int wh)] [] S R Q := by
  have el := w_nat (k := l) (by omega)
  have eb := w_nat (k := b) (by omega)
  have ebn : (Int32.ofInt (b : Int)).toInt.toNat = b := by rw [eb]; omega
  intro c
  induction c with
  | zero =>
    intro k hk h1
    obtain rfl : k = k9 := by omega
    have ek := w_nat (k := k) (by omega)
    have ekn : (Int32.ofInt (k : Int)).toInt.toNat = k := by rw [ek]; omega
    have hbit := h_bit (Int32.ofInt (b : Int)) (Int32.ofInt (k : Int)) (by omega) (by omega) (by omega)
    rw [ekn, ebn, k2] at hbit
    obtain ⟨t1, t2, t3⟩ := v_t1_at b1 (by omega) k2 hm bm k1
    have t4 : b + 2 ^ k < 256 := Nat.lt_of_lt_of_le t3 (Nat.pow_le_pow_right (by decide) hm)
    have e8 := v_m8 (b := l) (k := k) (by omega) (by omega)
    have e9 := v_m8 (b := b + 2 ^ k) (k := k) (by omega) (by omega)
    have w8 := w_nat (k := 8 * l + k) (by omega)
    have w9 := w_nat (k := 8 * (b + 2 ^ k) + k) (by omega)
    have w8n : (Int32.ofInt ((8 * l + k : Nat) : Int)).toInt.toNat = 8 * l + k := by rw [w8]; omega
    have w9n : (Int32.ofInt ((8 * (b + 2 ^ k) + k : Nat) : Int)).toInt.toNat = 8 * (b + 2 ^ k) + k := by rw [w9]; omega
    refine w_st rfl (fun _ => rfl) ?_
    refine w_st rfl (fun _ => rfl) ?_
    show w_T L xs (d + 1) m_X12_round 105 [(7, .int (Int32.ofInt (k : Int))), (6, .int iI), (5, .int (Int32.ofInt (l : Int))), (4, .int (Int32.ofInt (b : Int))), (3, .int nn), (0, .ref 100), (1, .int sI), (2, .int wh)] [.int (Int32.ofInt (k : Int)), .int (Int32.ofInt (b : Int))] S R Q
    refine w_cs rfl (by decide) mt_X12_has (fun _ => rfl) (Nat.le_of_ble_eq_true rfl) (Nat.le_of_ble_eq_true rfl) ?_
    show w_T L xs _ m_X12_has 0 (lv_args 0 [.int (Int32.ofInt (b : Int)), .int (Int32.ofInt (k : Int))]) [] S R _
    refine h_has _ _ ?_
    rw [hbit]
    show w_T L xs (d + 1) m_X12_round 108 [(7, .int (Int32.ofInt (k : Int))), (6, .int iI), (5, .int (Int32.ofInt (l : Int))), (4, .int (Int32.ofInt (b : Int))), (3, .int nn), (0, .ref 100), (1, .int sI), (2, .int wh)] [.int (Int32.ofInt ((0 : Nat) : Int))] S R Q
    refine w_st rfl (fun _ => rfl) ?_
    refine w_st rfl (fun _ => rfl) ?_
    show w_T L xs (d + 1) m_X12_round 112 [(7, .int (Int32.ofInt (k : Int))), (6, .int iI), (5, .int (Int32.ofInt (l : Int))), (4, .int (Int32.ofInt (b : Int))), (3, .int nn), (0, .ref 100), (1, .int sI), (2, .int wh)] [.ref 100] S R Q
    refine w_getr rfl v_tyM rfl ?_
    refine w_st rfl (fun _ => rfl) ?_
    refine w_st rfl (fun _ => rfl) ?_
    refine w_st rfl (fun _ => rfl) ?_
    refine w_st rfl (fun _ => rfl) ?_
    refine w_st rfl (fun _ => rfl) ?_
    show w_T L xs (d + 1) m_X12_round 123 [(7, .int (Int32.ofInt (k : Int))), (6, .int iI), (5, .int (Int32.ofInt (l : Int))), (4, .int (Int32.ofInt (b : Int))), (3, .int nn), (0, .ref 100), (1, .int sI), (2, .int wh)] [.int (((Int32.ofInt 8) * (Int32.ofInt (l : Int))) + (Int32.ofInt (k : Int))), .ref 173] S R Q
    refine w_bald rfl rfl (by decide) (by rw [e8, w8]; omega) (by rw [e8, w8]; omega) ?_
    rw [e8, w8n]
    show w_T L xs (d + 1) m_X12_round 124 [(7, .int (Int32.ofInt (k : Int))), (6, .int iI), (5, .int (Int32.ofInt (l : Int))), (4, .int (Int32.ofInt (b : Int))), (3, .int nn), (0, .ref 100), (1, .int sI), (2, .int wh)] [.int (S 172 (8 * l + k))] S R Q
    refine w_br (P := (S 172 (8 * l + k)) = 0) rfl (fun _ => rfl) (fun h124 => ?_) (fun h124 => ?_)
    · exact absurd h124 k3
    · refine w_st rfl (fun _ => rfl) ?_
      show w_T L xs (d + 1) m_X12_round 128 [(7, .int (Int32.ofInt (k : Int))), (6, .int iI), (5, .int (Int32.ofInt (l : Int))), (4, .int (Int32.ofInt (b : Int))), (3, .int nn), (0, .ref 100), (1, .int sI), (2, .int wh)] [.ref 100] S R Q
      refine w_getr rfl v_tyM rfl ?_
      refine w_st rfl (fun _ => rfl) ?_
      refine w_st rfl (fun _ => rfl) ?_
      refine w_st rfl (fun _ => rfl) ?_
      refine w_st rfl (fun _ => rfl) ?_
      refine w_st rfl (fun _ => rfl) ?_
      refine w_st rfl (fun _ => rfl) ?_
      refine w_st rfl (fun _ => rfl) ?_
      refine w_st rfl (fun _ => rfl) ?_
      refine w_st rfl (fun _ => rfl) ?_
      show w_T L xs (d + 1) m_X12_round 144 [(7, .int (Int32.ofInt (k : Int))), (6, .int iI), (5, .int (Int32.ofInt (l : Int))), (4, .int (Int32.ofInt (b : Int))), (3, .int nn), (0, .ref 100), (1, .int sI), (2, .int wh)] [.int (((Int32.ofInt 8) * ((Int32.ofInt (b : Int)) ||| ((Int32.ofInt 1) <<< ((Int32.ofInt (k : Int)) &&& 31)))) + (Int32.ofInt (k : Int))), .ref 172] S R Q
      refine w_iald rfl rfl (by rw [t1, e9, w9]; omega) (by rw [t1, e9, w9]; omega) ?_
      rw [t1, e9, w9n]
      show w_T L xs (d + 1) m_X12_round 145 [(7, .int (Int32.ofInt (k : Int))), (6, .int iI), (5, .int (Int32.ofInt (l : Int))), (4, .int (Int32.ofInt (b : Int))), (3, .int nn), (0, .ref 100), (1, .int sI), (2, .int wh)] [.int (S 171 (8 * (b + 2 ^ k) + k))] S R Q
      refine w_br (P := ¬ (S 171 (8 * (b + 2 ^ k) + k)) = 0) rfl (fun _ => rfl) (fun h145 => ?_) (fun h145 => ?_)
      · exact K k h1 k1 k2 k4
      · exact absurd k4 h145
  | succ c ih =>
    intro k hk h1
    have ek := w_nat (k := k) (by omega)
    have ekn : (Int32.ofInt (k : Int)).toInt.toNat = k := by rw [ek]; omega
    have hbit := h_bit (Int32.ofInt (b : Int)) (Int32.ofInt (k : Int)) (by omega) (by omega) (by omega)
    rw [ekn, ebn] at hbit
    have e8 := v_m8 (b := l) (k := k) (by omega) (by omega)
    have w8 := w_nat (k := 8 * l + k) (by omega)
    have w8n : (Int32.ofInt ((8 * l + k : Nat) : Int)).toInt.toNat = 8 * l + k := by rw [w8]; omega
    refine w_st rfl (fun _ => rfl) ?_
    refine w_st rfl (fun _ => rfl) ?_
    show w_T L xs (d + 1) m_X12_round 105 [(7, .int (Int32.ofInt (k : Int))), (6, .int iI), (5, .int (Int32.ofInt (l : Int))), (4, .int (Int32.ofInt (b : Int))), (3, .int nn), (0, .ref 100), (1, .int sI), (2, .int wh)] [.int (Int32.ofInt (k : Int)), .int (Int32.ofInt (b : Int))] S R Q
    refine w_cs rfl (by decide) mt_X12_has (fun _ => rfl) (Nat.le_of_ble_eq_true rfl) (Nat.le_of_ble_eq_true rfl) ?_
    show w_T L xs _ m_X12_has 0 (lv_args 0 [.int (Int32.ofInt (b : Int)), .int (Int32.ofInt (k : Int))]) [] S R _
    refine h_has _ _ ?_
    rw [hbit]
    show w_T L xs (d + 1) m_X12_round 108 [(7, .int (Int32.ofInt (k : Int))), (6, .int iI), (5, .int (Int32.ofInt (l : Int))), (4, .int (Int32.ofInt (b : Int))), (3, .int nn), (0, .ref 100), (1, .int sI), (2, .int wh)] [.int (Int32.ofInt ((b / 2 ^ k % 2 : Nat) : Int))] S R Q
    refine w_br (P := ¬ (Int32.ofInt ((b / 2 ^ k % 2 : Nat) : Int)) = 0) rfl (fun _ => rfl) (fun h108 => ?_) (fun h108 => ?_)
    · refine w_st rfl (fun _ => rfl) ?_
      refine w_st rfl (fun _ => rfl) ?_
      show w_T L xs (d + 1) m_X12_round 101 [(7, .int ((Int32.ofInt (k : Int)) + Int32.ofInt 1)), (6, .int iI), (5, .int (Int32.ofInt (l : Int))), (4, .int (Int32.ofInt (b : Int))), (3, .int nn), (0, .ref 100), (1, .int sI), (2, .int wh)] [] S R Q
      rw [w_inc]
      exact ih (k + 1) (by omega) (by omega)
    · have hz : b / 2 ^ k % 2 = 0 := by
        have h16 := Decidable.of_not_not h108
        have := congrArg Int32.toInt h16
        rw [w_nat (by omega)] at this
        have z0 : (0 : Int32).toInt = 0 := rfl
        omega
      obtain ⟨t1, t2, t3⟩ := v_t1_at b1 (by omega) hz hm bm (show k < m by omega)
      have t4 : b + 2 ^ k < 256 := Nat.lt_of_lt_of_le t3 (Nat.pow_le_pow_right (by decide) hm)
      have e9 := v_m8 (b := b + 2 ^ k) (k := k) (by omega) (by omega)
      have w9 := w_nat (k := 8 * (b + 2 ^ k) + k) (by omega)
      have w9n : (Int32.ofInt ((8 * (b + 2 ^ k) + k : Nat) : Int)).toInt.toNat = 8 * (b + 2 ^ k) + k := by rw [w9]; omega
      refine w_st rfl (fun _ => rfl) ?_
      show w_T L xs (d + 1) m_X12_round 112 [(7, .int (Int32.ofInt (k : Int))), (6, .int iI), (5, .int (Int32.ofInt (l : Int))), (4, .int (Int32.ofInt (b : Int))), (3, .int nn), (0, .ref 100), (1, .int sI), (2, .int wh)] [.ref 100] S R Q
      refine w_getr rfl v_tyM rfl ?_
      refine w_st rfl (fun _ => rfl) ?_
      refine w_st rfl (fun _ => rfl) ?_
      refine w_st rfl (fun _ => rfl) ?_
      refine w_st rfl (fun _ => rfl) ?_
      refine w_st rfl (fun _ => rfl) ?_
      show w_T L xs (d + 1) m_X12_round 123 [(7, .int (Int32.ofInt (k : Int))), (6, .int iI), (5, .int (Int32.ofInt (l : Int))), (4, .int (Int32.ofInt (b : Int))), (3, .int nn), (0, .ref 100), (1, .int sI), (2, .int wh)] [.int (((Int32.ofInt 8) * (Int32.ofInt (l : Int))) + (Int32.ofInt (k : Int))), .ref 173] S R Q
      refine w_bald rfl rfl (by decide) (by rw [e8, w8]; omega) (by rw [e8, w8]; omega) ?_
      rw [e8, w8n]
      show w_T L xs (d + 1) m_X12_round 124 [(7, .int (Int32.ofInt (k : Int))), (6, .int iI), (5, .int (Int32.ofInt (l : Int))), (4, .int (Int32.ofInt (b : Int))), (3, .int nn), (0, .ref 100), (1, .int sI), (2, .int wh)] [.int (S 172 (8 * l + k))] S R Q
      refine w_br (P := (S 172 (8 * l + k)) = 0) rfl (fun _ => rfl) (fun h124 => ?_) (fun h124 => ?_)
      · refine w_st rfl (fun _ => rfl) ?_
        refine w_st rfl (fun _ => rfl) ?_
        show w_T L xs (d + 1) m_X12_round 101 [(7, .int ((Int32.ofInt (k : Int)) + Int32.ofInt 1)), (6, .int iI), (5, .int (Int32.ofInt (l : Int))), (4, .int (Int32.ofInt (b : Int))), (3, .int nn), (0, .ref 100), (1, .int sI), (2, .int wh)] [] S R Q
        rw [w_inc]
        exact ih (k + 1) (by omega) (by omega)
      · refine w_st rfl (fun _ => rfl) ?_
        show w_T L xs (d + 1) m_X12_round 128 [(7, .int (Int32.ofInt (k : Int))), (6, .int iI), (5, .int (Int32.ofInt (l : Int))), (4, .int (Int32.ofInt (b : Int))), (3, .int nn), (0, .ref 100), (1, .int sI), (2, .int wh)] [.ref 100] S R Q
        refine w_getr rfl v_tyM rfl ?_
        refine w_st rfl (fun _ => rfl) ?_
        refine w_st rfl (fun _ => rfl) ?_
        refine w_st rfl (fun _ => rfl) ?_
        refine w_st rfl (fun _ => rfl) ?_
        refine w_st rfl (fun _ => rfl) ?_
        refine w_st rfl (fun _ => rfl) ?_
        refine w_st rfl (fun _ => rfl) ?_
        refine w_st rfl (fun _ => rfl) ?_
        refine w_st rfl (fun _ => rfl) ?_
        show w_T L xs (d + 1) m_X12_round 144 [(7, .int (Int32.ofInt (k : Int))), (6, .int iI), (5, .int (Int32.ofInt (l : Int))), (4, .int (Int32.ofInt (b : Int))), (3, .int nn), (0, .ref 100), (1, .int sI), (2, .int wh)] [.int (((Int32.ofInt 8) * ((Int32.ofInt (b : Int)) ||| ((Int32.ofInt 1) <<< ((Int32.ofInt (k : Int)) &&& 31)))) + (Int32.ofInt (k : Int))), .ref 172] S R Q
        refine w_iald rfl rfl (by rw [t1, e9, w9]; omega) (by rw [t1, e9, w9]; omega) ?_
        rw [t1, e9, w9n]
        show w_T L xs (d + 1) m_X12_round 145 [(7, .int (Int32.ofInt (k : Int))), (6, .int iI), (5, .int (Int32.ofInt (l : Int))), (4, .int (Int32.ofInt (b : Int))), (3, .int nn), (0, .ref 100), (1, .int sI), (2, .int wh)] [.int (S 171 (8 * (b + 2 ^ k) + k))] S R Q
        refine w_br (P := ¬ (S 171 (8 * (b + 2 ^ k) + k)) = 0) rfl (fun _ => rfl) (fun h145 => ?_) (fun h145 => ?_)
        · exact K k h1 (by omega) hz h145
        · refine w_st rfl (fun _ => rfl) ?_
          refine w_st rfl (fun _ => rfl) ?_
          show w_T L xs (d + 1) m_X12_round 101 [(7, .int ((Int32.ofInt (k : Int)) + Int32.ofInt 1)), (6, .int iI), (5, .int (Int32.ofInt (l : Int))), (4, .int (Int32.ofInt (b : Int))), (3, .int nn), (0, .ref 100), (1, .int sI), (2, .int wh)] [] S R Q
          rw [w_inc]
          exact ih (k + 1) (by omega) (by omega)
end RO
end Prt39c
