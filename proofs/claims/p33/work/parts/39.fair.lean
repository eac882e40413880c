/-! fair: areGusts, byteAt -/
noncomputable abbrev m_X12_fair : g_M := (g_cn 12, yX12_fair, cX12_fair, 7, (some .int), g_look2 ttX12_fair)
set_option maxRecDepth 20000 in
theorem mt_X12_fair : g_mt 279 = some m_X12_fair := rfl
noncomputable abbrev m_X12_areGusts : g_M := (g_cn 12, yX12_areGusts, cX12_areGusts, 4, (some .boolean), g_look2 ttX12_areGusts)
set_option maxRecDepth 20000 in
theorem mt_X12_areGusts : g_mt 250 = some m_X12_areGusts := rfl
noncomputable abbrev m_X12_byteAt : g_M := (g_cn 12, yX12_byteAt, cX12_byteAt, 2, (some .int), g_look2 ttX12_byteAt)
set_option maxRecDepth 20000 in
theorem mt_X12_byteAt : g_mt 166 = some m_X12_byteAt := rfl
noncomputable abbrev m_X12_toldGusts : g_M := (g_cn 12, yX12_toldGusts, cX12_toldGusts, 3, (some .int), g_look2 ttX12_toldGusts)
set_option maxRecDepth 20000 in
theorem mt_X12_toldGusts : g_mt 249 = some m_X12_toldGusts := rfl
section FR
variable {L : Nat} {xs : Nat → Int32} {d : Nat} {Q : Option Value → v_Sf → v_Rf → Prop}
theorem w_b255 (x : Int32) : 0 ≤ (x &&& Int32.ofInt 255).toInt ∧ (x &&& Int32.ofInt 255).toInt ≤ 255 := by
  have h : (x &&& Int32.ofInt 255).toBitVec.toNat ≤ 255 := by
    show (x.toBitVec &&& (Int32.ofInt 255).toBitVec).toNat ≤ 255
    rw [BitVec.toNat_and]
    exact Nat.and_le_right
  have := v_nn2 (x := x &&& Int32.ofInt 255) (by omega)
  omega
theorem h_liesO {S : v_Sf} {R : v_Rf} (a b c : Int64) (hq : ∀ u : Int32, (u = 0 ∨ b.toInt ≤ a.toInt ∧ a.toInt ≤ c.toInt) → Q (some (.int u)) S R) : w_T L xs d m_X12_lies 0 (lv_args 0 [.long a, .long b, .long c]) [] S R Q := by
  refine h_lies a b c (hq _ ?_)
  by_cases h : b.toInt ≤ a.toInt ∧ a.toInt ≤ c.toInt
  · exact Or.inr h
  · exact Or.inl (if_neg h)
theorem h_byte (S : v_Sf) (R : v_Rf) (k : Int32) (k1 : 0 ≤ k.toInt) (k2 : k.toInt ≤ 31) (hq : Q (some (.int (S 100 k.toInt.toNat &&& Int32.ofInt 255))) S R) : w_T L xs d m_X12_byteAt 0 (lv_args 0 [.ref 100, .int k]) [] S R Q := by
  refine w_st rfl (fun _ => rfl) ?_
  show w_T L xs d m_X12_byteAt 1 [(0, .ref 100), (1, .int k)] [.ref 100] S R Q
  refine w_getr rfl v_tyM rfl ?_
  refine w_st rfl (fun _ => rfl) ?_
  show w_T L xs d m_X12_byteAt 5 [(0, .ref 100), (1, .int k)] [.int k, .ref 101] S R Q
  refine w_bald rfl rfl (by decide) (by omega) (by omega) ?_
  refine w_st rfl (fun _ => rfl) ?_
  refine w_st rfl (fun _ => rfl) ?_
  show w_T L xs d m_X12_byteAt 10 [(0, .ref 100), (1, .int k)] [.int ((S 100 k.toInt.toNat) &&& (Int32.ofInt 255))] S R Q
  refine w_ret rfl rfl ?_
  exact hq
theorem h_areGusts (hG : v_Met L xs v_ty v_Op 249 rw_222) (S : v_Sf) (R : v_Rf) (sI lo hi : Int32) (hT : v_Tb v_ty S R) (hO : v_Op S) (hq : ∀ u : Int32, (u = 0 ∨ 1 ≤ sI.toInt ∧ sI.toInt ≤ 4095 ∧ lo.toInt ≤ (v_pop sI).toInt ∧ (v_pop sI).toInt ≤ hi.toInt) → Q (some (.int u)) S R) : w_T L xs (d + 1) m_X12_areGusts 0 (lv_args 0 [.ref 100, .int sI, .int lo, .int hi]) [] S R Q := by
  refine w_st rfl (fun _ => rfl) ?_
  show w_T L xs (d + 1) m_X12_areGusts 1 [(0, .ref 100), (1, .int sI), (2, .int lo), (3, .int hi)] [.int sI] S R Q
  refine w_br (P := sI ≤ 0) rfl (fun _ => rfl) (fun h1 => ?_) (fun h1 => ?_)
  · refine w_st rfl (fun _ => rfl) ?_
    show w_T L xs (d + 1) m_X12_areGusts 35 [(0, .ref 100), (1, .int sI), (2, .int lo), (3, .int hi)] [.int (Int32.ofInt 0)] S R Q
    refine w_ret rfl (by rfl) ?_
    first | exact hq _ (Or.inl rfl) | exact hq _ (Or.inr ⟨by omega, by omega, hc.1, hc.2⟩)
  · refine w_st rfl (fun _ => rfl) ?_
    refine w_st rfl (fun _ => rfl) ?_
    show w_T L xs (d + 1) m_X12_areGusts 6 [(0, .ref 100), (1, .int sI), (2, .int lo), (3, .int hi)] [.ref 100, .int sI] S R Q
    refine w_cv rfl (by decide) mt_X12_toldGusts v_tyM rfl rfl rfl (Nat.le_of_ble_eq_true rfl) (Nat.le_of_ble_eq_true rfl) (Nat.le_of_ble_eq_true rfl) ?_
    show w_T L xs _ m_X12_toldGusts 0 (lv_args 0 [.ref 100]) [] S R _
    refine w_met hG (Nat.zero_le _) mt_X12_toldGusts ⟨rfl, trivial⟩ hT hO (fun r S1 R1 hT1 hO1 hr hF => ?_)
    obtain ⟨u, hr, u1, u2⟩ := hr
    subst hr
    obtain ⟨rfl, rfl⟩ := v_Fr_nil hF
    refine w_st rfl (fun _ => rfl) ?_
    refine w_st rfl (fun _ => rfl) ?_
    refine w_st rfl (fun _ => rfl) ?_
    show w_T L xs (d + 1) m_X12_areGusts 12 [(0, .ref 100), (1, .int sI), (2, .int lo), (3, .int hi)] [.int (sI &&& (u ^^^ (Int32.ofInt (-1))))] S R Q
    refine w_br (P := ¬ (sI &&& (u ^^^ (Int32.ofInt (-1)))) = 0) rfl (fun _ => rfl) (fun h12 => ?_) (fun h12 => ?_)
    · refine w_st rfl (fun _ => rfl) ?_
      show w_T L xs (d + 1) m_X12_areGusts 35 [(0, .ref 100), (1, .int sI), (2, .int lo), (3, .int hi)] [.int (Int32.ofInt 0)] S R Q
      refine w_ret rfl (by rfl) ?_
      first | exact hq _ (Or.inl rfl) | exact hq _ (Or.inr ⟨by omega, by omega, hc.1, hc.2⟩)
    · refine w_st rfl (fun _ => rfl) ?_
      show w_T L xs (d + 1) m_X12_areGusts 16 [(0, .ref 100), (1, .int sI), (2, .int lo), (3, .int hi)] [.int sI] S R Q
      refine w_cs rfl (by decide) mt_X12_sizeOf (fun _ => rfl) (Nat.le_of_ble_eq_true rfl) (Nat.le_of_ble_eq_true rfl) ?_
      show w_T L xs _ m_X12_sizeOf 0 (lv_args 0 [.int sI]) [] S R _
      refine h_sizeOf _ ?_
      refine w_st rfl (fun _ => rfl) ?_
      refine w_st rfl (fun _ => rfl) ?_
      refine w_st rfl (fun _ => rfl) ?_
      refine w_st rfl (fun _ => rfl) ?_
      refine w_st rfl (fun _ => rfl) ?_
      show w_T L xs (d + 1) m_X12_areGusts 24 [(0, .ref 100), (1, .int sI), (2, .int lo), (3, .int hi)] [.long hi.toInt64, .long lo.toInt64, .long ((v_pop sI).toInt64)] S R Q
      refine w_cs rfl (by decide) mt_X12_lies (fun _ => rfl) (Nat.le_of_ble_eq_true rfl) (Nat.le_of_ble_eq_true rfl) ?_
      show w_T L xs _ m_X12_lies 0 (lv_args 0 [.long ((v_pop sI).toInt64), .long lo.toInt64, .long hi.toInt64]) [] S R _
      refine h_liesO _ _ _ (fun w hw => ?_)
      show w_T L xs (d + 1) m_X12_areGusts 27 [(0, .ref 100), (1, .int sI), (2, .int lo), (3, .int hi)] [.int w] S R Q
      refine w_br (P := w = 0) rfl (fun _ => rfl) (fun h27 => ?_) (fun h27 => ?_)
      · refine w_st rfl (fun _ => rfl) ?_
        show w_T L xs (d + 1) m_X12_areGusts 35 [(0, .ref 100), (1, .int sI), (2, .int lo), (3, .int hi)] [.int (Int32.ofInt 0)] S R Q
        refine w_ret rfl (by rfl) ?_
        first | exact hq _ (Or.inl rfl) | exact hq _ (Or.inr ⟨by omega, by omega, hc.1, hc.2⟩)
      · have hc := hw.resolve_left h27
        rw [Int32.toInt_toInt64, Int32.toInt_toInt64, Int32.toInt_toInt64] at hc
        have z0 : (0 : Int32).toInt = 0 := rfl
        have s1 : 0 < sI.toInt := by rw [q_le32] at h1; omega
        have s2 : sI.toInt ≤ u.toInt := v_andnot (by omega) u1 (Classical.byContradiction (fun hn => h12 hn))
        have u2 : u.toInt ≤ 4095 := u2
        refine w_st rfl (fun _ => rfl) ?_
        refine w_st rfl (fun _ => rfl) ?_
        show w_T L xs (d + 1) m_X12_areGusts 35 [(0, .ref 100), (1, .int sI), (2, .int lo), (3, .int hi)] [.int (Int32.ofInt 1)] S R Q
        refine w_ret rfl (by rfl) ?_
        first | exact hq _ (Or.inl rfl) | exact hq _ (Or.inr ⟨by omega, by omega, hc.1, hc.2⟩)
theorem h_fA (R : v_Rf) (nn sI : Int32) : ∀ (c k : Nat) (S : v_Sf), k + c = 5 → v_Tb v_ty S R → v_Op S → (∀ S', v_Tb v_ty S' R → v_Op S' → v_Fr [(99, 1, 1), (152, 0, 12), (165, 0, 5)] S R S' R → w_T L xs (d + 4) m_X12_fair 57 [(3, .int (Int32.ofInt 0)), (2, .int nn), (0, .ref 100), (1, .int sI)] [] S' R Q) → w_T L xs (d + 4) m_X12_fair 37 [(3, .int (Int32.ofInt (k : Int))), (2, .int nn), (0, .ref 100), (1, .int sI)] [] S R Q := by
  have e5 : (Int32.ofInt 5).toInt = 5 := by decide
  have f1 : ∀ j, v_frz 165 j j = false := fun j => rfl
  have c1 : ∀ j, j ≤ 5 → v_md [(99, 1, 1), (152, 0, 12), (165, 0, 5)] 165 j j = true := fun j hj => v_md_mono (lo := 0) (hi := 5) (by decide +kernel) (Nat.zero_le _) hj
  intro c
  induction c with
  | zero =>
    intro k S hk hT hO K
    obtain rfl : k = 5 := by omega
    refine w_st rfl (fun _ => rfl) ?_
    refine w_st rfl (fun _ => rfl) ?_
    show w_T L xs (d + 4) m_X12_fair 39 [(3, .int (Int32.ofInt ((5 : Nat) : Int))), (2, .int nn), (0, .ref 100), (1, .int sI)] [.int (Int32.ofInt 5), .int (Int32.ofInt ((5 : Nat) : Int))] S R Q
    refine w_st rfl (fun _ => rfl) ?_
    refine w_st rfl (fun _ => rfl) ?_
    refine w_st rfl (fun _ => rfl) ?_
    show w_T L xs (d + 4) m_X12_fair 57 [(3, .int (Int32.ofInt 0)), (2, .int nn), (0, .ref 100), (1, .int sI)] [] S R Q
    exact K S hT hO (v_Fr_rf _ _ _)
  | succ c ih =>
    intro k S hk hT hO K
    have ek := w_nat (k := k) (by omega)
    refine w_st rfl (fun _ => rfl) ?_
    refine w_st rfl (fun _ => rfl) ?_
    show w_T L xs (d + 4) m_X12_fair 39 [(3, .int (Int32.ofInt (k : Int))), (2, .int nn), (0, .ref 100), (1, .int sI)] [.int (Int32.ofInt 5), .int (Int32.ofInt (k : Int))] S R Q
    refine w_br (P := (Int32.ofInt 5) ≤ (Int32.ofInt (k : Int))) rfl (fun _ => rfl) (fun h39 => ?_) (fun h39 => ?_)
    · exfalso; rw [q_le32, e5, ek] at h39; omega
    · refine w_st rfl (fun _ => rfl) ?_
      show w_T L xs (d + 4) m_X12_fair 43 [(3, .int (Int32.ofInt (k : Int))), (2, .int nn), (0, .ref 100), (1, .int sI)] [.ref 100] S R Q
      refine w_getr rfl v_tyM rfl ?_
      refine w_st rfl (fun _ => rfl) ?_
      refine w_st rfl (fun _ => rfl) ?_
      show w_T L xs (d + 4) m_X12_fair 48 [(3, .int (Int32.ofInt (k : Int))), (2, .int nn), (0, .ref 100), (1, .int sI)] [.int (Int32.ofInt (-1)), .int (Int32.ofInt (k : Int)), .ref 166] S R Q
      refine w_iast rfl rfl (by rw [ek]; omega) (by rw [ek]; omega) ?_
      refine w_st rfl (fun _ => rfl) ?_
      refine w_st rfl (fun _ => rfl) ?_
      show w_T L xs (d + 4) m_X12_fair 37 [(3, .int ((Int32.ofInt (k : Int)) + Int32.ofInt 1)), (2, .int nn), (0, .ref 100), (1, .int sI)] [] (v_ur S 165 (upd (S 165) (Int32.ofInt (k : Int)).toInt.toNat (Int32.ofInt (-1)))) R Q
      rw [w_inc]
      exact ih (k + 1) _ (by omega) (w_TbR hT (a := 165) rfl (by decide) (by decide)) (w_Op_ur (f1 _) hO) (fun S' a1 a2 a3 => K S' a1 a2 (v_Fr_tr (v_Fr_ur _ _ _ (c1 _ (by rw [ek]; omega))) a3))
def w_okb (x : Int32) : Prop := x &&& Int32.ofInt 255 = Int32.ofInt 255 ∨ (x &&& Int32.ofInt 255).toInt ≤ 4
set_option maxHeartbeats 1000000 in
theorem h_fbA (S : v_Sf) (R : v_Rf) (nn sI b0 : Int32) (m : Nat) (hm : (m : Int) < nn.toInt) (hn : nn.toInt ≤ 6) (hT : v_Tb v_ty S R) (hO : v_Op S) (hq : ∀ (S' : v_Sf) (v : Int32), v_Tb v_ty S' R → v_Op S' → v_Fr [(99, 1, 1), (152, 0, 12), (165, 0, 5)] S R S' R → Q (some (.int v)) S' R) (K : ∀ (S' : v_Sf) (b' : Int32), v_Tb v_ty S' R → v_Op S' → v_Fr [(99, 1, 1), (152, 0, 12), (165, 0, 5)] S R S' R → w_okb (S 100 m) → w_T L xs (d + 4) m_X12_fair 57 [(3, .int (Int32.ofInt ((m + 1 : Nat) : Int))), (4, .int (b')), (2, .int nn), (0, .ref 100), (1, .int sI)] [] S' R Q) : w_T L xs (d + 4) m_X12_fair 57 [(3, .int (Int32.ofInt (m : Int))), (2, .int nn), (0, .ref 100), (1, .int sI)] [] S R Q := by
  have em := w_nat (k := m) (by omega)
  have emn : (Int32.ofInt (m : Int)).toInt.toNat = m := by rw [em]; omega
  have e5 : (Int32.ofInt 5).toInt = 5 := by decide
  have tS : v_TbC S R 152 _ := hT 152 _ rfl
  have gb : 0 ≤ (S 152 m).toInt ∧ (S 152 m).toInt ≤ 11 := tS _ (by omega)
  have f1 : ∀ j, v_frz 165 j j = false := fun j => rfl
  have c1 : ∀ j, j ≤ 5 → v_md [(99, 1, 1), (152, 0, 12), (165, 0, 5)] 165 j j = true := fun j hj => v_md_mono (lo := 0) (hi := 5) (by decide +kernel) (Nat.zero_le _) hj
  have bb := w_b255 (S 100 m)
  refine w_st rfl (fun _ => rfl) ?_
  refine w_st rfl (fun _ => rfl) ?_
  show w_T L xs (d + 4) m_X12_fair 59 [(3, .int (Int32.ofInt (m : Int))), (2, .int nn), (0, .ref 100), (1, .int sI)] [.int nn, .int (Int32.ofInt (m : Int))] S R Q
  refine w_br (P := nn ≤ (Int32.ofInt (m : Int))) rfl (fun _ => rfl) (fun h59 => ?_) (fun h59 => ?_)
  · exfalso; rw [q_le32, em] at h59; omega
  · refine w_st rfl (fun _ => rfl) ?_
    refine w_st rfl (fun _ => rfl) ?_
    show w_T L xs (d + 4) m_X12_fair 64 [(3, .int (Int32.ofInt (m : Int))), (2, .int nn), (0, .ref 100), (1, .int sI)] [.int (Int32.ofInt (m : Int)), .ref 100] S R Q
    refine w_cv rfl (by decide) mt_X12_byteAt v_tyM rfl rfl rfl (Nat.le_of_ble_eq_true rfl) (Nat.le_of_ble_eq_true rfl) (Nat.le_of_ble_eq_true rfl) ?_
    show w_T L xs _ m_X12_byteAt 0 (lv_args 0 [.ref 100, .int (Int32.ofInt (m : Int))]) [] S R _
    refine h_byte _ _ _ (by rw [em]; omega) (by rw [em]; omega) ?_
    rw [emn]
    refine w_st rfl (fun _ => rfl) ?_
    refine w_st rfl (fun _ => rfl) ?_
    refine w_st rfl (fun _ => rfl) ?_
    show w_T L xs (d + 4) m_X12_fair 74 [(4, .int (S 100 m &&& Int32.ofInt 255)), (3, .int (Int32.ofInt (m : Int))), (2, .int nn), (0, .ref 100), (1, .int sI)] [.int (Int32.ofInt 255), .int (S 100 m &&& Int32.ofInt 255)] S R Q
    refine w_br (P := ¬ (S 100 m &&& Int32.ofInt 255) = (Int32.ofInt 255)) rfl (fun _ => rfl) (fun h74 => ?_) (fun h74 => ?_)
    · refine w_st rfl (fun _ => rfl) ?_
      refine w_st rfl (fun _ => rfl) ?_
      show w_T L xs (d + 4) m_X12_fair 83 [(4, .int (S 100 m &&& Int32.ofInt 255)), (3, .int (Int32.ofInt (m : Int))), (2, .int nn), (0, .ref 100), (1, .int sI)] [.int (Int32.ofInt 5), .int (S 100 m &&& Int32.ofInt 255)] S R Q
      refine w_br (P := (Int32.ofInt 5) ≤ (S 100 m &&& Int32.ofInt 255)) rfl (fun _ => rfl) (fun h83 => ?_) (fun h83 => ?_)
      · refine w_st rfl (fun _ => rfl) ?_
        show w_T L xs (d + 4) m_X12_fair 109 [(4, .int (S 100 m &&& Int32.ofInt 255)), (3, .int (Int32.ofInt (m : Int))), (2, .int nn), (0, .ref 100), (1, .int sI)] [.int (Int32.ofInt (-2))] S R Q
        refine w_ret rfl rfl ?_
        exact hq S _ hT hO (v_Fr_rf _ _ _)
      · have b4 : (S 100 m &&& Int32.ofInt 255).toInt ≤ 4 := by rw [q_le32, e5] at h83; omega
        refine w_st rfl (fun _ => rfl) ?_
        show w_T L xs (d + 4) m_X12_fair 87 [(4, .int (S 100 m &&& Int32.ofInt 255)), (3, .int (Int32.ofInt (m : Int))), (2, .int nn), (0, .ref 100), (1, .int sI)] [.ref 100] S R Q
        refine w_getr rfl v_tyM rfl ?_
        refine w_st rfl (fun _ => rfl) ?_
        show w_T L xs (d + 4) m_X12_fair 92 [(4, .int (S 100 m &&& Int32.ofInt 255)), (3, .int (Int32.ofInt (m : Int))), (2, .int nn), (0, .ref 100), (1, .int sI)] [.int (S 100 m &&& Int32.ofInt 255), .ref 163] S R Q
        refine w_bald rfl rfl (by decide) (by omega) (by omega) ?_
        show w_T L xs (d + 4) m_X12_fair 93 [(4, .int (S 100 m &&& Int32.ofInt 255)), (3, .int (Int32.ofInt (m : Int))), (2, .int nn), (0, .ref 100), (1, .int sI)] [.int (S 162 (S 100 m &&& Int32.ofInt 255).toInt.toNat)] S R Q
        refine w_br (P := (S 162 (S 100 m &&& Int32.ofInt 255).toInt.toNat) = 0) rfl (fun _ => rfl) (fun h93 => ?_) (fun h93 => ?_)
        · refine w_st rfl (fun _ => rfl) ?_
          show w_T L xs (d + 4) m_X12_fair 109 [(4, .int (S 100 m &&& Int32.ofInt 255)), (3, .int (Int32.ofInt (m : Int))), (2, .int nn), (0, .ref 100), (1, .int sI)] [.int (Int32.ofInt (-2))] S R Q
          refine w_ret rfl rfl ?_
          exact hq S _ hT hO (v_Fr_rf _ _ _)
        · refine w_st rfl (fun _ => rfl) ?_
          show w_T L xs (d + 4) m_X12_fair 97 [(4, .int (S 100 m &&& Int32.ofInt 255)), (3, .int (Int32.ofInt (m : Int))), (2, .int nn), (0, .ref 100), (1, .int sI)] [.ref 100] S R Q
          refine w_getr rfl v_tyM rfl ?_
          refine w_st rfl (fun _ => rfl) ?_
          show w_T L xs (d + 4) m_X12_fair 102 [(4, .int (S 100 m &&& Int32.ofInt 255)), (3, .int (Int32.ofInt (m : Int))), (2, .int nn), (0, .ref 100), (1, .int sI)] [.int (S 100 m &&& Int32.ofInt 255), .ref 166] S R Q
          refine w_iald rfl rfl (by omega) (by omega) ?_
          refine w_st rfl (fun _ => rfl) ?_
          show w_T L xs (d + 4) m_X12_fair 104 [(4, .int (S 100 m &&& Int32.ofInt 255)), (3, .int (Int32.ofInt (m : Int))), (2, .int nn), (0, .ref 100), (1, .int sI)] [.int (Int32.ofInt (-1)), .int (S 165 (S 100 m &&& Int32.ofInt 255).toInt.toNat)] S R Q
          refine w_br (P := (S 165 (S 100 m &&& Int32.ofInt 255).toInt.toNat) = (Int32.ofInt (-1))) rfl (fun _ => rfl) (fun h104 => ?_) (fun h104 => ?_)
          · refine w_st rfl (fun _ => rfl) ?_
            show w_T L xs (d + 4) m_X12_fair 111 [(4, .int (S 100 m &&& Int32.ofInt 255)), (3, .int (Int32.ofInt (m : Int))), (2, .int nn), (0, .ref 100), (1, .int sI)] [.ref 100] S R Q
            refine w_getr rfl v_tyM rfl ?_
            refine w_st rfl (fun _ => rfl) ?_
            refine w_st rfl (fun _ => rfl) ?_
            show w_T L xs (d + 4) m_X12_fair 117 [(4, .int (S 100 m &&& Int32.ofInt 255)), (3, .int (Int32.ofInt (m : Int))), (2, .int nn), (0, .ref 100), (1, .int sI)] [.ref 100, .int (S 100 m &&& Int32.ofInt 255), .ref 166] S R Q
            refine w_getr rfl v_tyM rfl ?_
            refine w_st rfl (fun _ => rfl) ?_
            show w_T L xs (d + 4) m_X12_fair 121 [(4, .int (S 100 m &&& Int32.ofInt 255)), (3, .int (Int32.ofInt (m : Int))), (2, .int nn), (0, .ref 100), (1, .int sI)] [.int (Int32.ofInt (m : Int)), .ref 153, .int (S 100 m &&& Int32.ofInt 255), .ref 166] S R Q
            refine w_iald rfl rfl (by rw [em]; omega) (by rw [em]; omega) ?_
            rw [emn]
            show w_T L xs (d + 4) m_X12_fair 122 [(4, .int (S 100 m &&& Int32.ofInt 255)), (3, .int (Int32.ofInt (m : Int))), (2, .int nn), (0, .ref 100), (1, .int sI)] [.int (S 152 m), .int (S 100 m &&& Int32.ofInt 255), .ref 166] S R Q
            refine w_iast rfl rfl (by omega) (by omega) ?_
            refine w_st rfl (fun _ => rfl) ?_
            refine w_st rfl (fun _ => rfl) ?_
            show w_T L xs (d + 4) m_X12_fair 57 [(3, .int ((Int32.ofInt (m : Int)) + Int32.ofInt 1)), (4, .int (S 100 m &&& Int32.ofInt 255)), (2, .int nn), (0, .ref 100), (1, .int sI)] [] (v_ur S 165 (upd (S 165) (S 100 m &&& Int32.ofInt 255).toInt.toNat (S 152 m))) R Q
            rw [w_inc]
            exact K _ _ (w_TbR hT (a := 165) rfl (by omega) gb.2) (w_Op_ur (f1 _) hO) (v_Fr_ur _ _ _ (c1 _ (by omega))) (Or.inr (by omega))
          · refine w_st rfl (fun _ => rfl) ?_
            show w_T L xs (d + 4) m_X12_fair 109 [(4, .int (S 100 m &&& Int32.ofInt 255)), (3, .int (Int32.ofInt (m : Int))), (2, .int nn), (0, .ref 100), (1, .int sI)] [.int (Int32.ofInt (-2))] S R Q
            refine w_ret rfl rfl ?_
            exact hq S _ hT hO (v_Fr_rf _ _ _)
    · refine w_st rfl (fun _ => rfl) ?_
      refine w_st rfl (fun _ => rfl) ?_
      refine w_st rfl (fun _ => rfl) ?_
      show w_T L xs (d + 4) m_X12_fair 57 [(3, .int ((Int32.ofInt (m : Int)) + Int32.ofInt 1)), (4, .int (S 100 m &&& Int32.ofInt 255)), (2, .int nn), (0, .ref 100), (1, .int sI)] [] S R Q
      rw [w_inc]
      exact K S _ hT hO (v_Fr_rf _ _ _) (Or.inl (Classical.byContradiction (fun hh => h74 hh)))
set_option maxHeartbeats 1000000 in
theorem h_fbB (S : v_Sf) (R : v_Rf) (nn sI b0 : Int32) (m : Nat) (hm : (m : Int) < nn.toInt) (hn : nn.toInt ≤ 6) (hT : v_Tb v_ty S R) (hO : v_Op S) (hq : ∀ (S' : v_Sf) (v : Int32), v_Tb v_ty S' R → v_Op S' → v_Fr [(99, 1, 1), (152, 0, 12), (165, 0, 5)] S R S' R → Q (some (.int v)) S' R) (K : ∀ (S' : v_Sf) (b' : Int32), v_Tb v_ty S' R → v_Op S' → v_Fr [(99, 1, 1), (152, 0, 12), (165, 0, 5)] S R S' R → w_okb (S 100 m) → w_T L xs (d + 4) m_X12_fair 57 [(3, .int (Int32.ofInt ((m + 1 : Nat) : Int))), (4, .int (b')), (2, .int nn), (0, .ref 100), (1, .int sI)] [] S' R Q) : w_T L xs (d + 4) m_X12_fair 57 [(3, .int (Int32.ofInt (m : Int))), (4, .int b0), (2, .int nn), (0, .ref 100), (1, .int sI)] [] S R Q := by
  have em := w_nat (k := m) (by omega)
  have emn : (Int32.ofInt (m : Int)).toInt.toNat = m := by rw [em]; omega
  have e5 : (Int32.ofInt 5).toInt = 5 := by decide
  have tS : v_TbC S R 152 _ := hT 152 _ rfl
  have gb : 0 ≤ (S 152 m).toInt ∧ (S 152 m).toInt ≤ 11 := tS _ (by omega)
  have f1 : ∀ j, v_frz 165 j j = false := fun j => rfl
  have c1 : ∀ j, j ≤ 5 → v_md [(99, 1, 1), (152, 0, 12), (165, 0, 5)] 165 j j = true := fun j hj => v_md_mono (lo := 0) (hi := 5) (by decide +kernel) (Nat.zero_le _) hj
  have bb := w_b255 (S 100 m)
  refine w_st rfl (fun _ => rfl) ?_
  refine w_st rfl (fun _ => rfl) ?_
  show w_T L xs (d + 4) m_X12_fair 59 [(3, .int (Int32.ofInt (m : Int))), (4, .int b0), (2, .int nn), (0, .ref 100), (1, .int sI)] [.int nn, .int (Int32.ofInt (m : Int))] S R Q
  refine w_br (P := nn ≤ (Int32.ofInt (m : Int))) rfl (fun _ => rfl) (fun h59 => ?_) (fun h59 => ?_)
  · exfalso; rw [q_le32, em] at h59; omega
  · refine w_st rfl (fun _ => rfl) ?_
    refine w_st rfl (fun _ => rfl) ?_
    show w_T L xs (d + 4) m_X12_fair 64 [(3, .int (Int32.ofInt (m : Int))), (4, .int b0), (2, .int nn), (0, .ref 100), (1, .int sI)] [.int (Int32.ofInt (m : Int)), .ref 100] S R Q
    refine w_cv rfl (by decide) mt_X12_byteAt v_tyM rfl rfl rfl (Nat.le_of_ble_eq_true rfl) (Nat.le_of_ble_eq_true rfl) (Nat.le_of_ble_eq_true rfl) ?_
    show w_T L xs _ m_X12_byteAt 0 (lv_args 0 [.ref 100, .int (Int32.ofInt (m : Int))]) [] S R _
    refine h_byte _ _ _ (by rw [em]; omega) (by rw [em]; omega) ?_
    rw [emn]
    refine w_st rfl (fun _ => rfl) ?_
    refine w_st rfl (fun _ => rfl) ?_
    refine w_st rfl (fun _ => rfl) ?_
    show w_T L xs (d + 4) m_X12_fair 74 [(4, .int (S 100 m &&& Int32.ofInt 255)), (3, .int (Int32.ofInt (m : Int))), (2, .int nn), (0, .ref 100), (1, .int sI)] [.int (Int32.ofInt 255), .int (S 100 m &&& Int32.ofInt 255)] S R Q
    refine w_br (P := ¬ (S 100 m &&& Int32.ofInt 255) = (Int32.ofInt 255)) rfl (fun _ => rfl) (fun h74 => ?_) (fun h74 => ?_)
    · refine w_st rfl (fun _ => rfl) ?_
      refine w_st rfl (fun _ => rfl) ?_
      show w_T L xs (d + 4) m_X12_fair 83 [(4, .int (S 100 m &&& Int32.ofInt 255)), (3, .int (Int32.ofInt (m : Int))), (2, .int nn), (0, .ref 100), (1, .int sI)] [.int (Int32.ofInt 5), .int (S 100 m &&& Int32.ofInt 255)] S R Q
      refine w_br (P := (Int32.ofInt 5) ≤ (S 100 m &&& Int32.ofInt 255)) rfl (fun _ => rfl) (fun h83 => ?_) (fun h83 => ?_)
      · refine w_st rfl (fun _ => rfl) ?_
        show w_T L xs (d + 4) m_X12_fair 109 [(4, .int (S 100 m &&& Int32.ofInt 255)), (3, .int (Int32.ofInt (m : Int))), (2, .int nn), (0, .ref 100), (1, .int sI)] [.int (Int32.ofInt (-2))] S R Q
        refine w_ret rfl rfl ?_
        exact hq S _ hT hO (v_Fr_rf _ _ _)
      · have b4 : (S 100 m &&& Int32.ofInt 255).toInt ≤ 4 := by rw [q_le32, e5] at h83; omega
        refine w_st rfl (fun _ => rfl) ?_
        show w_T L xs (d + 4) m_X12_fair 87 [(4, .int (S 100 m &&& Int32.ofInt 255)), (3, .int (Int32.ofInt (m : Int))), (2, .int nn), (0, .ref 100), (1, .int sI)] [.ref 100] S R Q
        refine w_getr rfl v_tyM rfl ?_
        refine w_st rfl (fun _ => rfl) ?_
        show w_T L xs (d + 4) m_X12_fair 92 [(4, .int (S 100 m &&& Int32.ofInt 255)), (3, .int (Int32.ofInt (m : Int))), (2, .int nn), (0, .ref 100), (1, .int sI)] [.int (S 100 m &&& Int32.ofInt 255), .ref 163] S R Q
        refine w_bald rfl rfl (by decide) (by omega) (by omega) ?_
        show w_T L xs (d + 4) m_X12_fair 93 [(4, .int (S 100 m &&& Int32.ofInt 255)), (3, .int (Int32.ofInt (m : Int))), (2, .int nn), (0, .ref 100), (1, .int sI)] [.int (S 162 (S 100 m &&& Int32.ofInt 255).toInt.toNat)] S R Q
        refine w_br (P := (S 162 (S 100 m &&& Int32.ofInt 255).toInt.toNat) = 0) rfl (fun _ => rfl) (fun h93 => ?_) (fun h93 => ?_)
        · refine w_st rfl (fun _ => rfl) ?_
          show w_T L xs (d + 4) m_X12_fair 109 [(4, .int (S 100 m &&& Int32.ofInt 255)), (3, .int (Int32.ofInt (m : Int))), (2, .int nn), (0, .ref 100), (1, .int sI)] [.int (Int32.ofInt (-2))] S R Q
          refine w_ret rfl rfl ?_
          exact hq S _ hT hO (v_Fr_rf _ _ _)
        · refine w_st rfl (fun _ => rfl) ?_
          show w_T L xs (d + 4) m_X12_fair 97 [(4, .int (S 100 m &&& Int32.ofInt 255)), (3, .int (Int32.ofInt (m : Int))), (2, .int nn), (0, .ref 100), (1, .int sI)] [.ref 100] S R Q
          refine w_getr rfl v_tyM rfl ?_
          refine w_st rfl (fun _ => rfl) ?_
          show w_T L xs (d + 4) m_X12_fair 102 [(4, .int (S 100 m &&& Int32.ofInt 255)), (3, .int (Int32.ofInt (m : Int))), (2, .int nn), (0, .ref 100), (1, .int sI)] [.int (S 100 m &&& Int32.ofInt 255), .ref 166] S R Q
          refine w_iald rfl rfl (by omega) (by omega) ?_
          refine w_st rfl (fun _ => rfl) ?_
          show w_T L xs (d + 4) m_X12_fair 104 [(4, .int (S 100 m &&& Int32.ofInt 255)), (3, .int (Int32.ofInt (m : Int))), (2, .int nn), (0, .ref 100), (1, .int sI)] [.int (Int32.ofInt (-1)), .int (S 165 (S 100 m &&& Int32.ofInt 255).toInt.toNat)] S R Q
          refine w_br (P := (S 165 (S 100 m &&& Int32.ofInt 255).toInt.toNat) = (Int32.ofInt (-1))) rfl (fun _ => rfl) (fun h104 => ?_) (fun h104 => ?_)
          · refine w_st rfl (fun _ => rfl) ?_
            show w_T L xs (d + 4) m_X12_fair 111 [(4, .int (S 100 m &&& Int32.ofInt 255)), (3, .int (Int32.ofInt (m : Int))), (2, .int nn), (0, .ref 100), (1, .int sI)] [.ref 100] S R Q
            refine w_getr rfl v_tyM rfl ?_
            refine w_st rfl (fun _ => rfl) ?_
            refine w_st rfl (fun _ => rfl) ?_
            show w_T L xs (d + 4) m_X12_fair 117 [(4, .int (S 100 m &&& Int32.ofInt 255)), (3, .int (Int32.ofInt (m : Int))), (2, .int nn), (0, .ref 100), (1, .int sI)] [.ref 100, .int (S 100 m &&& Int32.ofInt 255), .ref 166] S R Q
            refine w_getr rfl v_tyM rfl ?_
            refine w_st rfl (fun _ => rfl) ?_
            show w_T L xs (d + 4) m_X12_fair 121 [(4, .int (S 100 m &&& Int32.ofInt 255)), (3, .int (Int32.ofInt (m : Int))), (2, .int nn), (0, .ref 100), (1, .int sI)] [.int (Int32.ofInt (m : Int)), .ref 153, .int (S 100 m &&& Int32.ofInt 255), .ref 166] S R Q
            refine w_iald rfl rfl (by rw [em]; omega) (by rw [em]; omega) ?_
            rw [emn]
            show w_T L xs (d + 4) m_X12_fair 122 [(4, .int (S 100 m &&& Int32.ofInt 255)), (3, .int (Int32.ofInt (m : Int))), (2, .int nn), (0, .ref 100), (1, .int sI)] [.int (S 152 m), .int (S 100 m &&& Int32.ofInt 255), .ref 166] S R Q
            refine w_iast rfl rfl (by omega) (by omega) ?_
            refine w_st rfl (fun _ => rfl) ?_
            refine w_st rfl (fun _ => rfl) ?_
            show w_T L xs (d + 4) m_X12_fair 57 [(3, .int ((Int32.ofInt (m : Int)) + Int32.ofInt 1)), (4, .int (S 100 m &&& Int32.ofInt 255)), (2, .int nn), (0, .ref 100), (1, .int sI)] [] (v_ur S 165 (upd (S 165) (S 100 m &&& Int32.ofInt 255).toInt.toNat (S 152 m))) R Q
            rw [w_inc]
            exact K _ _ (w_TbR hT (a := 165) rfl (by omega) gb.2) (w_Op_ur (f1 _) hO) (v_Fr_ur _ _ _ (c1 _ (by omega))) (Or.inr (by omega))
          · refine w_st rfl (fun _ => rfl) ?_
            show w_T L xs (d + 4) m_X12_fair 109 [(4, .int (S 100 m &&& Int32.ofInt 255)), (3, .int (Int32.ofInt (m : Int))), (2, .int nn), (0, .ref 100), (1, .int sI)] [.int (Int32.ofInt (-2))] S R Q
            refine w_ret rfl rfl ?_
            exact hq S _ hT hO (v_Fr_rf _ _ _)
    · refine w_st rfl (fun _ => rfl) ?_
      refine w_st rfl (fun _ => rfl) ?_
      refine w_st rfl (fun _ => rfl) ?_
      show w_T L xs (d + 4) m_X12_fair 57 [(3, .int ((Int32.ofInt (m : Int)) + Int32.ofInt 1)), (4, .int (S 100 m &&& Int32.ofInt 255)), (2, .int nn), (0, .ref 100), (1, .int sI)] [] S R Q
      rw [w_inc]
      exact K S _ hT hO (v_Fr_rf _ _ _) (Or.inl (Classical.byContradiction (fun hh => h74 hh)))
theorem h_fB (R : v_Rf) (nn sI : Int32) (hn : nn.toInt ≤ 6) : ∀ (c m : Nat) (S : v_Sf) (b0 : Int32), ((m + c : Nat) : Int) = nn.toInt → v_Tb v_ty S R → v_Op S → (∀ j, j < m → w_okb (S 100 j)) → (∀ (S' : v_Sf) (v : Int32), v_Tb v_ty S' R → v_Op S' → v_Fr [(99, 1, 1), (152, 0, 12), (165, 0, 5)] S R S' R → Q (some (.int v)) S' R) → (∀ (S' : v_Sf), v_Tb v_ty S' R → v_Op S' → v_Fr [(99, 1, 1), (152, 0, 12), (165, 0, 5)] S R S' R → (∀ j : Nat, (j : Int) < nn.toInt → w_okb (S' 100 j)) → w_T L xs (d + 4) m_X12_fair 134 [(4, .int (Int32.ofInt 0)), (3, .int (Int32.ofInt 0)), (2, .int nn), (0, .ref 100), (1, .int sI)] [] S' R Q) → w_T L xs (d + 4) m_X12_fair 57 [(3, .int (Int32.ofInt (m : Int))), (4, .int b0), (2, .int nn), (0, .ref 100), (1, .int sI)] [] S R Q := by
  have ct : ∀ j, v_md [(99, 1, 1), (152, 0, 12), (165, 0, 5)] 100 j j = false := fun j => rfl
  intro c
  induction c with
  | zero =>
    intro m S b0 hc hT hO hb hq K
    have em := w_nat (k := m) (by omega)
    refine w_st rfl (fun _ => rfl) ?_
    refine w_st rfl (fun _ => rfl) ?_
    show w_T L xs (d + 4) m_X12_fair 59 [(3, .int (Int32.ofInt (m : Int))), (4, .int b0), (2, .int nn), (0, .ref 100), (1, .int sI)] [.int nn, .int (Int32.ofInt (m : Int))] S R Q
    refine w_br (P := nn ≤ (Int32.ofInt (m : Int))) rfl (fun _ => rfl) (fun h59 => ?_) (fun h59 => ?_)
    · refine w_st rfl (fun _ => rfl) ?_
      refine w_st rfl (fun _ => rfl) ?_
      refine w_st rfl (fun _ => rfl) ?_
      refine w_st rfl (fun _ => rfl) ?_
      show w_T L xs (d + 4) m_X12_fair 134 [(4, .int (Int32.ofInt 0)), (3, .int (Int32.ofInt 0)), (2, .int nn), (0, .ref 100), (1, .int sI)] [] S R Q
      exact K S hT hO (v_Fr_rf _ _ _) (fun j hj => hb j (by omega))
    · exfalso; rw [q_le32, em] at h59; omega
  | succ c ih =>
    intro m S b0 hc hT hO hb hq K
    refine h_fbB S R nn sI b0 m (by omega) hn hT hO hq (fun S' b' k1 k2 k3 k4 => ?_)
    have e : ∀ j, S' 100 j = S 100 j := fun j => (k3 _ _ (ct j)).1
    refine ih (m + 1) S' b' (by omega) k1 k2 (fun j hj => ?_) (fun S2 v q1 q2 q3 => hq S2 v q1 q2 (v_Fr_tr k3 q3)) (fun S2 q1 q2 q3 q4 => K S2 q1 q2 (v_Fr_tr k3 q3) q4)
    rw [e]
    by_cases h : j = m
    · rw [h]; exact k4
    · exact hb j (by omega)
set_option maxHeartbeats 1000000 in
theorem h_fI (hH : v_Met L xs v_ty v_Op 273 rw_241) (hK : v_Met L xs v_ty v_Op 274 rw_242) (S : v_Sf) (R : v_Rf) (nn sI own : Int32) (o1 : -1 ≤ own.toInt) (o2 : own.toInt ≤ 4) (m : Nat) (hm : m < 6) (hT : v_Tb v_ty S R) (hO : v_Op S) (K : ∀ (h' c' : Int32), w_T L xs (d + 4) m_X12_fair 134 [(4, .int (Int32.ofInt ((m + 1 : Nat) : Int))), (6, .int (h')), (5, .int own), (3, .int (c')), (2, .int nn), (0, .ref 100), (1, .int sI)] [] S R Q) : ∀ (c h : Nat) (cn : Int32), h + c = 5 → w_T L xs (d + 4) m_X12_fair 167 [(6, .int (Int32.ofInt (h : Int))), (5, .int own), (4, .int (Int32.ofInt (m : Int))), (3, .int cn), (2, .int nn), (0, .ref 100), (1, .int sI)] [] S R Q := by
  have em := w_nat (k := m) (by omega)
  have emn : (Int32.ofInt (m : Int)).toInt.toNat = m := by rw [em]; omega
  have e5 : (Int32.ofInt 5).toInt = 5 := by decide
  have tS : v_TbC S R 152 _ := hT 152 _ rfl
  have tK : v_TbC S R 165 _ := hT 165 _ rfl
  have gb : 0 ≤ (S 152 m).toInt ∧ (S 152 m).toInt ≤ 11 := tS _ (by omega)
  intro c
  induction c with
  | zero =>
    intro h cn hh
    obtain rfl : h = 5 := by omega
    refine w_st rfl (fun _ => rfl) ?_
    refine w_st rfl (fun _ => rfl) ?_
    show w_T L xs (d + 4) m_X12_fair 170 [(6, .int (Int32.ofInt ((5 : Nat) : Int))), (5, .int own), (4, .int (Int32.ofInt (m : Int))), (3, .int cn), (2, .int nn), (0, .ref 100), (1, .int sI)] [.int (Int32.ofInt 5), .int (Int32.ofInt ((5 : Nat) : Int))] S R Q
    refine w_st rfl (fun _ => rfl) ?_
    refine w_st rfl (fun _ => rfl) ?_
    refine w_st rfl (fun _ => rfl) ?_
    show w_T L xs (d + 4) m_X12_fair 134 [(4, .int ((Int32.ofInt (m : Int)) + Int32.ofInt 1)), (6, .int (Int32.ofInt ((5 : Nat) : Int))), (5, .int own), (3, .int cn), (2, .int nn), (0, .ref 100), (1, .int sI)] [] S R Q
    rw [w_inc]
    exact K _ _
  | succ c ih =>
    intro h cn hh
    have eh := w_nat (k := h) (by omega)
    have ehn : (Int32.ofInt (h : Int)).toInt.toNat = h := by rw [eh]; omega
    have kb : -1 ≤ (S 165 h).toInt ∧ (S 165 h).toInt ≤ 11 := tK h (by omega)
    refine w_st rfl (fun _ => rfl) ?_
    refine w_st rfl (fun _ => rfl) ?_
    show w_T L xs (d + 4) m_X12_fair 170 [(6, .int (Int32.ofInt (h : Int))), (5, .int own), (4, .int (Int32.ofInt (m : Int))), (3, .int cn), (2, .int nn), (0, .ref 100), (1, .int sI)] [.int (Int32.ofInt 5), .int (Int32.ofInt (h : Int))] S R Q
    refine w_br (P := (Int32.ofInt 5) ≤ (Int32.ofInt (h : Int))) rfl (fun _ => rfl) (fun h170 => ?_) (fun h170 => ?_)
    · exfalso; rw [q_le32, e5, eh] at h170; omega
    · refine w_st rfl (fun _ => rfl) ?_
      show w_T L xs (d + 4) m_X12_fair 174 [(6, .int (Int32.ofInt (h : Int))), (5, .int own), (4, .int (Int32.ofInt (m : Int))), (3, .int cn), (2, .int nn), (0, .ref 100), (1, .int sI)] [.ref 100] S R Q
      refine w_getr rfl v_tyM rfl ?_
      refine w_st rfl (fun _ => rfl) ?_
      show w_T L xs (d + 4) m_X12_fair 179 [(6, .int (Int32.ofInt (h : Int))), (5, .int own), (4, .int (Int32.ofInt (m : Int))), (3, .int cn), (2, .int nn), (0, .ref 100), (1, .int sI)] [.int (Int32.ofInt (h : Int)), .ref 163] S R Q
      refine w_bald rfl rfl (by decide) (by rw [eh]; omega) (by rw [eh]; omega) ?_
      show w_T L xs (d + 4) m_X12_fair 180 [(6, .int (Int32.ofInt (h : Int))), (5, .int own), (4, .int (Int32.ofInt (m : Int))), (3, .int cn), (2, .int nn), (0, .ref 100), (1, .int sI)] [.int (S 162 (Int32.ofInt (h : Int)).toInt.toNat)] S R Q
      refine w_br (P := (S 162 (Int32.ofInt (h : Int)).toInt.toNat) = 0) rfl (fun _ => rfl) (fun h180 => ?_) (fun h180 => ?_)
      · refine w_st rfl (fun _ => rfl) ?_
        refine w_st rfl (fun _ => rfl) ?_
        show w_T L xs (d + 4) m_X12_fair 167 [(6, .int ((Int32.ofInt (h : Int)) + Int32.ofInt 1)), (5, .int own), (4, .int (Int32.ofInt (m : Int))), (3, .int cn), (2, .int nn), (0, .ref 100), (1, .int sI)] [] S R Q
        rw [w_inc]
        exact ih (h + 1) _ (by omega)
      · refine w_st rfl (fun _ => rfl) ?_
        refine w_st rfl (fun _ => rfl) ?_
        show w_T L xs (d + 4) m_X12_fair 187 [(6, .int (Int32.ofInt (h : Int))), (5, .int own), (4, .int (Int32.ofInt (m : Int))), (3, .int cn), (2, .int nn), (0, .ref 100), (1, .int sI)] [.int own, .int (Int32.ofInt (h : Int))] S R Q
        refine w_br (P := (Int32.ofInt (h : Int)) = own) rfl (fun _ => rfl) (fun h187 => ?_) (fun h187 => ?_)
        · refine w_st rfl (fun _ => rfl) ?_
          refine w_st rfl (fun _ => rfl) ?_
          show w_T L xs (d + 4) m_X12_fair 167 [(6, .int ((Int32.ofInt (h : Int)) + Int32.ofInt 1)), (5, .int own), (4, .int (Int32.ofInt (m : Int))), (3, .int cn), (2, .int nn), (0, .ref 100), (1, .int sI)] [] S R Q
          rw [w_inc]
          exact ih (h + 1) _ (by omega)
        · refine w_st rfl (fun _ => rfl) ?_
          refine w_st rfl (fun _ => rfl) ?_
          refine w_st rfl (fun _ => rfl) ?_
          show w_T L xs (d + 4) m_X12_fair 195 [(6, .int (Int32.ofInt (h : Int))), (5, .int own), (4, .int (Int32.ofInt (m : Int))), (3, .int cn), (2, .int nn), (0, .ref 100), (1, .int sI)] [.int own, .int (Int32.ofInt (h : Int)), .ref 100] S R Q
          refine w_cv rfl (by decide) mt_X12_isHigher v_tyM rfl rfl rfl (Nat.le_of_ble_eq_true rfl) (Nat.le_of_ble_eq_true rfl) (Nat.le_of_ble_eq_true rfl) ?_
          show w_T L xs _ m_X12_isHigher 0 (lv_args 0 [.ref 100, .int (Int32.ofInt (h : Int)), .int own]) [] S R _
          refine w_met hH (Nat.zero_le _) mt_X12_isHigher ⟨rfl, ⟨_, rfl, by rw [eh]; show (0 : Int) ≤ _; omega, by rw [eh]; show _ ≤ (4 : Int); omega⟩, ⟨_, rfl, o1, o2⟩, trivial⟩ hT hO (fun r S1 R1 hT1 hO1 hr hF => ?_)
          obtain ⟨u, hr, -, -⟩ := hr
          subst hr
          obtain ⟨rfl, rfl⟩ := v_Fr_nil hF
          show w_T L xs (d + 4) m_X12_fair 198 [(6, .int (Int32.ofInt (h : Int))), (5, .int own), (4, .int (Int32.ofInt (m : Int))), (3, .int cn), (2, .int nn), (0, .ref 100), (1, .int sI)] [.int u] S R Q
          refine w_br (P := u = 0) rfl (fun _ => rfl) (fun h198 => ?_) (fun h198 => ?_)
          · refine w_st rfl (fun _ => rfl) ?_
            refine w_st rfl (fun _ => rfl) ?_
            show w_T L xs (d + 4) m_X12_fair 167 [(6, .int ((Int32.ofInt (h : Int)) + Int32.ofInt 1)), (5, .int own), (4, .int (Int32.ofInt (m : Int))), (3, .int cn), (2, .int nn), (0, .ref 100), (1, .int sI)] [] S R Q
            rw [w_inc]
            exact ih (h + 1) _ (by omega)
          · refine w_st rfl (fun _ => rfl) ?_
            refine w_st rfl (fun _ => rfl) ?_
            refine w_st rfl (fun _ => rfl) ?_
            show w_T L xs (d + 4) m_X12_fair 205 [(6, .int (Int32.ofInt (h : Int))), (5, .int own), (4, .int (Int32.ofInt (m : Int))), (3, .int cn), (2, .int nn), (0, .ref 100), (1, .int sI)] [.ref 100, .int (Int32.ofInt (h : Int)), .ref 100] S R Q
            refine w_getr rfl v_tyM rfl ?_
            refine w_st rfl (fun _ => rfl) ?_
            show w_T L xs (d + 4) m_X12_fair 210 [(6, .int (Int32.ofInt (h : Int))), (5, .int own), (4, .int (Int32.ofInt (m : Int))), (3, .int cn), (2, .int nn), (0, .ref 100), (1, .int sI)] [.int (Int32.ofInt (m : Int)), .ref 153, .int (Int32.ofInt (h : Int)), .ref 100] S R Q
            refine w_iald rfl rfl (by rw [em]; omega) (by rw [em]; omega) ?_
            rw [emn]
            refine w_st rfl (fun _ => rfl) ?_
            show w_T L xs (d + 4) m_X12_fair 212 [(6, .int (Int32.ofInt (h : Int))), (5, .int own), (4, .int (Int32.ofInt (m : Int))), (3, .int cn), (2, .int nn), (0, .ref 100), (1, .int sI)] [.ref 100, .int (S 152 m), .int (Int32.ofInt (h : Int)), .ref 100] S R Q
            refine w_getr rfl v_tyM rfl ?_
            refine w_st rfl (fun _ => rfl) ?_
            show w_T L xs (d + 4) m_X12_fair 217 [(6, .int (Int32.ofInt (h : Int))), (5, .int own), (4, .int (Int32.ofInt (m : Int))), (3, .int cn), (2, .int nn), (0, .ref 100), (1, .int sI)] [.int (Int32.ofInt (h : Int)), .ref 166, .int (S 152 m), .int (Int32.ofInt (h : Int)), .ref 100] S R Q
            refine w_iald rfl rfl (by rw [eh]; omega) (by rw [eh]; omega) ?_
            rw [ehn]
            show w_T L xs (d + 4) m_X12_fair 218 [(6, .int (Int32.ofInt (h : Int))), (5, .int own), (4, .int (Int32.ofInt (m : Int))), (3, .int cn), (2, .int nn), (0, .ref 100), (1, .int sI)] [.int (S 165 h), .int (S 152 m), .int (Int32.ofInt (h : Int)), .ref 100] S R Q
            refine w_cv rfl (by decide) mt_X12_isLiked v_tyM rfl rfl rfl (Nat.le_of_ble_eq_true rfl) (Nat.le_of_ble_eq_true rfl) (Nat.le_of_ble_eq_true rfl) ?_
            show w_T L xs _ m_X12_isLiked 0 (lv_args 0 [.ref 100, .int (Int32.ofInt (h : Int)), .int (S 152 m), .int (S 165 h)]) [] S R _
            refine w_met hK (Nat.le_of_ble_eq_true rfl) mt_X12_isLiked ⟨rfl, ⟨_, rfl, by rw [eh]; show (0 : Int) ≤ _; omega, by rw [eh]; show _ ≤ (4 : Int); omega⟩, ⟨_, rfl, gb.1, gb.2⟩, ⟨_, rfl, kb.1, kb.2⟩, trivial⟩ hT hO (fun r S1 R1 hT1 hO1 hr hF => ?_)
            obtain ⟨u2, hr, -, -⟩ := hr
            subst hr
            obtain ⟨rfl, rfl⟩ := v_Fr_nil hF
            show w_T L xs (d + 4) m_X12_fair 221 [(6, .int (Int32.ofInt (h : Int))), (5, .int own), (4, .int (Int32.ofInt (m : Int))), (3, .int cn), (2, .int nn), (0, .ref 100), (1, .int sI)] [.int u2] S R Q
            refine w_br (P := u2 = 0) rfl (fun _ => rfl) (fun h221 => ?_) (fun h221 => ?_)
            · refine w_st rfl (fun _ => rfl) ?_
              refine w_st rfl (fun _ => rfl) ?_
              show w_T L xs (d + 4) m_X12_fair 167 [(6, .int ((Int32.ofInt (h : Int)) + Int32.ofInt 1)), (5, .int own), (4, .int (Int32.ofInt (m : Int))), (3, .int cn), (2, .int nn), (0, .ref 100), (1, .int sI)] [] S R Q
              rw [w_inc]
              exact ih (h + 1) _ (by omega)
            · refine w_st rfl (fun _ => rfl) ?_
              refine w_st rfl (fun _ => rfl) ?_
              refine w_st rfl (fun _ => rfl) ?_
              show w_T L xs (d + 4) m_X12_fair 167 [(6, .int ((Int32.ofInt (h : Int)) + Int32.ofInt 1)), (3, .int (cn + Int32.ofInt 1)), (5, .int own), (4, .int (Int32.ofInt (m : Int))), (2, .int nn), (0, .ref 100), (1, .int sI)] [] S R Q
              refine w_lc (b := [(6, .int ((Int32.ofInt (h : Int)) + Int32.ofInt 1)), (5, .int own), (4, .int (Int32.ofInt (m : Int))), (3, .int (cn + Int32.ofInt 1)), (2, .int nn), (0, .ref 100), (1, .int sI)]) (show ([6, 3, 5, 4, 2, 0, 1] : List Nat).Nodup by decide) (show ([6, 5, 4, 3, 2, 0, 1] : List Nat).Nodup by decide) (fun i => match i with | 0 => rfl | 1 => rfl | 2 => rfl | 3 => rfl | 4 => rfl | 5 => rfl | 6 => rfl | _ + 7 => rfl) ?_
              rw [w_inc]
              exact ih (h + 1) _ (by omega)
set_option maxHeartbeats 1000000 in
theorem h_foA (hH : v_Met L xs v_ty v_Op 273 rw_241) (hK : v_Met L xs v_ty v_Op 274 rw_242) (S : v_Sf) (R : v_Rf) (nn sI cn h0 w0 : Int32) (m : Nat) (hm : (m : Int) < nn.toInt) (hn : nn.toInt ≤ 6) (hT : v_Tb v_ty S R) (hO : v_Op S) (hb : w_okb (S 100 m)) (K : ∀ (h' o' c' : Int32), w_T L xs (d + 4) m_X12_fair 134 [(4, .int (Int32.ofInt ((m + 1 : Nat) : Int))), (6, .int (h')), (5, .int (o')), (3, .int (c')), (2, .int nn), (0, .ref 100), (1, .int sI)] [] S R Q) : w_T L xs (d + 4) m_X12_fair 134 [(4, .int (Int32.ofInt (m : Int))), (3, .int cn), (2, .int nn), (0, .ref 100), (1, .int sI)] [] S R Q := by
  have em := w_nat (k := m) (by omega)
  have emn : (Int32.ofInt (m : Int)).toInt.toNat = m := by rw [em]; omega
  have bb := w_b255 (S 100 m)
  refine w_st rfl (fun _ => rfl) ?_
  refine w_st rfl (fun _ => rfl) ?_
  show w_T L xs (d + 4) m_X12_fair 137 [(4, .int (Int32.ofInt (m : Int))), (3, .int cn), (2, .int nn), (0, .ref 100), (1, .int sI)] [.int nn, .int (Int32.ofInt (m : Int))] S R Q
  refine w_br (P := nn ≤ (Int32.ofInt (m : Int))) rfl (fun _ => rfl) (fun h137 => ?_) (fun h137 => ?_)
  · exfalso; rw [q_le32, em] at h137; omega
  · refine w_st rfl (fun _ => rfl) ?_
    refine w_st rfl (fun _ => rfl) ?_
    show w_T L xs (d + 4) m_X12_fair 143 [(4, .int (Int32.ofInt (m : Int))), (3, .int cn), (2, .int nn), (0, .ref 100), (1, .int sI)] [.int (Int32.ofInt (m : Int)), .ref 100] S R Q
    refine w_cv rfl (by decide) mt_X12_byteAt v_tyM rfl rfl rfl (Nat.le_of_ble_eq_true rfl) (Nat.le_of_ble_eq_true rfl) (Nat.le_of_ble_eq_true rfl) ?_
    show w_T L xs _ m_X12_byteAt 0 (lv_args 0 [.ref 100, .int (Int32.ofInt (m : Int))]) [] S R _
    refine h_byte _ _ _ (by rw [em]; omega) (by rw [em]; omega) ?_
    rw [emn]
    refine w_st rfl (fun _ => rfl) ?_
    show w_T L xs (d + 4) m_X12_fair 149 [(4, .int (Int32.ofInt (m : Int))), (3, .int cn), (2, .int nn), (0, .ref 100), (1, .int sI)] [.int (Int32.ofInt 255), .int (S 100 m &&& Int32.ofInt 255)] S R Q
    refine w_br (P := ¬ (S 100 m &&& Int32.ofInt 255) = (Int32.ofInt 255)) rfl (fun _ => rfl) (fun h149 => ?_) (fun h149 => ?_)
    · have b4 : (S 100 m &&& Int32.ofInt 255).toInt ≤ 4 := hb.resolve_left (fun e => h149 e)
      have bb' : -1 ≤ (S 100 m &&& Int32.ofInt 255).toInt := by omega
      refine w_st rfl (fun _ => rfl) ?_
      refine w_st rfl (fun _ => rfl) ?_
      show w_T L xs (d + 4) m_X12_fair 159 [(4, .int (Int32.ofInt (m : Int))), (3, .int cn), (2, .int nn), (0, .ref 100), (1, .int sI)] [.int (Int32.ofInt (m : Int)), .ref 100] S R Q
      refine w_cv rfl (by decide) mt_X12_byteAt v_tyM rfl rfl rfl (Nat.le_of_ble_eq_true rfl) (Nat.le_of_ble_eq_true rfl) (Nat.le_of_ble_eq_true rfl) ?_
      show w_T L xs _ m_X12_byteAt 0 (lv_args 0 [.ref 100, .int (Int32.ofInt (m : Int))]) [] S R _
      refine h_byte _ _ _ (by rw [em]; omega) (by rw [em]; omega) ?_
      rw [emn]
      refine w_st rfl (fun _ => rfl) ?_
      refine w_st rfl (fun _ => rfl) ?_
      refine w_st rfl (fun _ => rfl) ?_
      show w_T L xs (d + 4) m_X12_fair 167 [(6, .int (Int32.ofInt 0)), (5, .int (S 100 m &&& Int32.ofInt 255)), (4, .int (Int32.ofInt (m : Int))), (3, .int cn), (2, .int nn), (0, .ref 100), (1, .int sI)] [] S R Q
      exact h_fI hH hK S R nn sI _ bb' b4 m (by omega) hT hO (fun h' c' => K h' _ c') 5 0 _ rfl
    · refine w_st rfl (fun _ => rfl) ?_
      refine w_st rfl (fun _ => rfl) ?_
      refine w_st rfl (fun _ => rfl) ?_
      refine w_st rfl (fun _ => rfl) ?_
      refine w_st rfl (fun _ => rfl) ?_
      show w_T L xs (d + 4) m_X12_fair 167 [(6, .int (Int32.ofInt 0)), (5, .int (Int32.ofInt (-1))), (4, .int (Int32.ofInt (m : Int))), (3, .int cn), (2, .int nn), (0, .ref 100), (1, .int sI)] [] S R Q
      exact h_fI hH hK S R nn sI _ (by decide) (by decide) m (by omega) hT hO (fun h' c' => K h' _ c') 5 0 _ rfl
set_option maxHeartbeats 1000000 in
theorem h_foB (hH : v_Met L xs v_ty v_Op 273 rw_241) (hK : v_Met L xs v_ty v_Op 274 rw_242) (S : v_Sf) (R : v_Rf) (nn sI cn h0 w0 : Int32) (m : Nat) (hm : (m : Int) < nn.toInt) (hn : nn.toInt ≤ 6) (hT : v_Tb v_ty S R) (hO : v_Op S) (hb : w_okb (S 100 m)) (K : ∀ (h' o' c' : Int32), w_T L xs (d + 4) m_X12_fair 134 [(4, .int (Int32.ofInt ((m + 1 : Nat) : Int))), (6, .int (h')), (5, .int (o')), (3, .int (c')), (2, .int nn), (0, .ref 100), (1, .int sI)] [] S R Q) : w_T L xs (d + 4) m_X12_fair 134 [(4, .int (Int32.ofInt (m : Int))), (6, .int h0), (5, .int w0), (3, .int cn), (2, .int nn), (0, .ref 100), (1, .int sI)] [] S R Q := by
  have em := w_nat (k := m) (by omega)
  have emn : (Int32.ofInt (m : Int)).toInt.toNat = m := by rw [em]; omega
  have bb := w_b255 (S 100 m)
  refine w_st rfl (fun _ => rfl) ?_
  refine w_st rfl (fun _ => rfl) ?_
  show w_T L xs (d + 4) m_X12_fair 137 [(4, .int (Int32.ofInt (m : Int))), (6, .int h0), (5, .int w0), (3, .int cn), (2, .int nn), (0, .ref 100), (1, .int sI)] [.int nn, .int (Int32.ofInt (m : Int))] S R Q
  refine w_br (P := nn ≤ (Int32.ofInt (m : Int))) rfl (fun _ => rfl) (fun h137 => ?_) (fun h137 => ?_)
  · exfalso; rw [q_le32, em] at h137; omega
  · refine w_st rfl (fun _ => rfl) ?_
    refine w_st rfl (fun _ => rfl) ?_
    show w_T L xs (d + 4) m_X12_fair 143 [(4, .int (Int32.ofInt (m : Int))), (6, .int h0), (5, .int w0), (3, .int cn), (2, .int nn), (0, .ref 100), (1, .int sI)] [.int (Int32.ofInt (m : Int)), .ref 100] S R Q
    refine w_cv rfl (by decide) mt_X12_byteAt v_tyM rfl rfl rfl (Nat.le_of_ble_eq_true rfl) (Nat.le_of_ble_eq_true rfl) (Nat.le_of_ble_eq_true rfl) ?_
    show w_T L xs _ m_X12_byteAt 0 (lv_args 0 [.ref 100, .int (Int32.ofInt (m : Int))]) [] S R _
    refine h_byte _ _ _ (by rw [em]; omega) (by rw [em]; omega) ?_
    rw [emn]
    refine w_st rfl (fun _ => rfl) ?_
    show w_T L xs (d + 4) m_X12_fair 149 [(4, .int (Int32.ofInt (m : Int))), (6, .int h0), (5, .int w0), (3, .int cn), (2, .int nn), (0, .ref 100), (1, .int sI)] [.int (Int32.ofInt 255), .int (S 100 m &&& Int32.ofInt 255)] S R Q
    refine w_br (P := ¬ (S 100 m &&& Int32.ofInt 255) = (Int32.ofInt 255)) rfl (fun _ => rfl) (fun h149 => ?_) (fun h149 => ?_)
    · have b4 : (S 100 m &&& Int32.ofInt 255).toInt ≤ 4 := hb.resolve_left (fun e => h149 e)
      have bb' : -1 ≤ (S 100 m &&& Int32.ofInt 255).toInt := by omega
      refine w_st rfl (fun _ => rfl) ?_
      refine w_st rfl (fun _ => rfl) ?_
      show w_T L xs (d + 4) m_X12_fair 159 [(4, .int (Int32.ofInt (m : Int))), (6, .int h0), (5, .int w0), (3, .int cn), (2, .int nn), (0, .ref 100), (1, .int sI)] [.int (Int32.ofInt (m : Int)), .ref 100] S R Q
      refine w_cv rfl (by decide) mt_X12_byteAt v_tyM rfl rfl rfl (Nat.le_of_ble_eq_true rfl) (Nat.le_of_ble_eq_true rfl) (Nat.le_of_ble_eq_true rfl) ?_
      show w_T L xs _ m_X12_byteAt 0 (lv_args 0 [.ref 100, .int (Int32.ofInt (m : Int))]) [] S R _
      refine h_byte _ _ _ (by rw [em]; omega) (by rw [em]; omega) ?_
      rw [emn]
      refine w_st rfl (fun _ => rfl) ?_
      refine w_st rfl (fun _ => rfl) ?_
      refine w_st rfl (fun _ => rfl) ?_
      show w_T L xs (d + 4) m_X12_fair 167 [(6, .int (Int32.ofInt 0)), (5, .int (S 100 m &&& Int32.ofInt 255)), (4, .int (Int32.ofInt (m : Int))), (3, .int cn), (2, .int nn), (0, .ref 100), (1, .int sI)] [] S R Q
      exact h_fI hH hK S R nn sI _ bb' b4 m (by omega) hT hO (fun h' c' => K h' _ c') 5 0 _ rfl
    · refine w_st rfl (fun _ => rfl) ?_
      refine w_st rfl (fun _ => rfl) ?_
      refine w_st rfl (fun _ => rfl) ?_
      refine w_st rfl (fun _ => rfl) ?_
      refine w_st rfl (fun _ => rfl) ?_
      show w_T L xs (d + 4) m_X12_fair 167 [(6, .int (Int32.ofInt 0)), (5, .int (Int32.ofInt (-1))), (4, .int (Int32.ofInt (m : Int))), (3, .int cn), (2, .int nn), (0, .ref 100), (1, .int sI)] [] S R Q
      exact h_fI hH hK S R nn sI _ (by decide) (by decide) m (by omega) hT hO (fun h' c' => K h' _ c') 5 0 _ rfl
theorem h_fO (hH : v_Met L xs v_ty v_Op 273 rw_241) (hK : v_Met L xs v_ty v_Op 274 rw_242) (S : v_Sf) (R : v_Rf) (nn sI : Int32) (hn : nn.toInt ≤ 6) (hT : v_Tb v_ty S R) (hO : v_Op S) (hb : ∀ j : Nat, (j : Int) < nn.toInt → w_okb (S 100 j)) (hq : ∀ v : Int32, Q (some (.int v)) S R) : ∀ (c m : Nat) (h0 w0 cn : Int32), ((m + c : Nat) : Int) = nn.toInt → w_T L xs (d + 4) m_X12_fair 134 [(4, .int (Int32.ofInt (m : Int))), (6, .int h0), (5, .int w0), (3, .int cn), (2, .int nn), (0, .ref 100), (1, .int sI)] [] S R Q := by
  intro c
  induction c with
  | zero =>
    intro m h0 w0 cn hc
    have em := w_nat (k := m) (by omega)
    refine w_st rfl (fun _ => rfl) ?_
    refine w_st rfl (fun _ => rfl) ?_
    show w_T L xs (d + 4) m_X12_fair 137 [(4, .int (Int32.ofInt (m : Int))), (6, .int h0), (5, .int w0), (3, .int cn), (2, .int nn), (0, .ref 100), (1, .int sI)] [.int nn, .int (Int32.ofInt (m : Int))] S R Q
    refine w_br (P := nn ≤ (Int32.ofInt (m : Int))) rfl (fun _ => rfl) (fun h137 => ?_) (fun h137 => ?_)
    · refine w_st rfl (fun _ => rfl) ?_
      show w_T L xs (d + 4) m_X12_fair 240 [(4, .int (Int32.ofInt (m : Int))), (6, .int h0), (5, .int w0), (3, .int cn), (2, .int nn), (0, .ref 100), (1, .int sI)] [.int cn] S R Q
      refine w_ret rfl rfl ?_
      exact hq _
    · exfalso; rw [q_le32, em] at h137; omega
  | succ c ih =>
    intro m h0 w0 cn hc
    exact h_foB hH hK S R nn sI cn h0 w0 m (by omega) hn hT hO (hb m (by omega)) (fun h' o' c' => ih (m + 1) h' o' c' (by omega))
theorem hr_X12_fair {L : Nat} {xs : Nat → Int32} (ih : ∀ x, ∀ w ∈ v_rw x, w.1 < rw_247.1 → v_Met L xs v_ty v_Op x w) : v_Met L xs v_ty v_Op 279 rw_247 := by
  have hH := ih 273 rw_241 (List.mem_of_getElem? (i := 0) rfl) (Nat.le_of_ble_eq_true rfl)
  have hK := ih 274 rw_242 (List.mem_of_getElem? (i := 0) rfl) (Nat.le_of_ble_eq_true rfl)
  have hG := ih 249 rw_222 (List.mem_of_getElem? (i := 0) rfl) (Nat.le_of_ble_eq_true rfl)
  intro M hM ac S R ha hT hO
  rw [mt_X12_fair] at hM
  cases hM
  match ac, ha with
  | [r0, w1], ⟨h0, ⟨sI, hg, _, _⟩, _⟩ =>
  have h0 : r0 = .ref 100 := h0
  subst h0 hg
  show w_T L xs 6 m_X12_fair 0 (lv_args 0 [.ref 100, .int sI]) [] S R (fun r S' R' => v_Tb v_ty S' R' ∧ v_Op S' ∧ v_rk1 (some ((-2147483648), 2147483647)) r ∧ v_Fr [(99, 1, 1), (152, 0, 12), (165, 0, 5)] S R S' R')
  generalize hQ : (fun (r : Option Value) (S' : v_Sf) (R' : v_Rf) => v_Tb v_ty S' R' ∧ v_Op S' ∧ v_rk1 (some ((-2147483648), 2147483647)) r ∧ v_Fr [(99, 1, 1), (152, 0, 12), (165, 0, 5)] S R S' R') = Q
  have hq : ∀ (S' : v_Sf) (v : Int32), v_Tb v_ty S' R → v_Op S' → v_Fr [(99, 1, 1), (152, 0, 12), (165, 0, 5)] S R S' R → Q (some (.int v)) S' R := fun S' v a1 a2 a3 => by
    rw [← hQ]
    exact ⟨a1, a2, ⟨v, rfl, (q_rng v).1, (q_rng v).2⟩, a3⟩
  have c3 : ∀ j, j ≤ 12 → v_md [(99, 1, 1), (152, 0, 12), (165, 0, 5)] 152 j j = true := fun j hj => v_md_mono (lo := 0) (hi := 12) (by decide +kernel) (Nat.zero_le _) hj
  have f3 : ∀ j, v_frz 152 j j = false := fun j => rfl
  refine w_st rfl (fun _ => rfl) ?_
  refine w_st rfl (fun _ => rfl) ?_
  refine w_st rfl (fun _ => rfl) ?_
  refine w_st rfl (fun _ => rfl) ?_
  show w_T L xs 6 m_X12_fair 5 [(0, .ref 100), (1, .int sI)] [.int (Int32.ofInt 6), .int (Int32.ofInt 1), .int sI, .ref 100] S R Q
  refine w_cv rfl (by decide) mt_X12_areGusts v_tyM rfl rfl rfl (Nat.le_of_ble_eq_true rfl) (Nat.le_of_ble_eq_true rfl) (Nat.le_of_ble_eq_true rfl) ?_
  show w_T L xs _ m_X12_areGusts 0 (lv_args 0 [.ref 100, .int sI, .int (Int32.ofInt 1), .int (Int32.ofInt 6)]) [] S R _
  refine h_areGusts (d := 4) hG S R sI _ _ hT hO (fun u hu => ?_)
  show w_T L xs 6 m_X12_fair 8 [(0, .ref 100), (1, .int sI)] [.int u] S R Q
  refine w_br (P := u = 0) rfl (fun _ => rfl) (fun h8 => ?_) (fun h8 => ?_)
  · refine w_st rfl (fun _ => rfl) ?_
    show w_T L xs 6 m_X12_fair 23 [(0, .ref 100), (1, .int sI)] [.int (Int32.ofInt (-1))] S R Q
    refine w_ret rfl rfl ?_
    exact hq S _ hT hO (v_Fr_rf _ _ _)
  · have hu := hu.resolve_left (fun e => h8 e)
    refine w_st rfl (fun _ => rfl) ?_
    show w_T L xs 6 m_X12_fair 12 [(0, .ref 100), (1, .int sI)] [.int sI] S R Q
    refine w_cs rfl (by decide) mt_X12_sizeOf (fun _ => rfl) (Nat.le_of_ble_eq_true rfl) (Nat.le_of_ble_eq_true rfl) ?_
    show w_T L xs _ m_X12_sizeOf 0 (lv_args 0 [.int sI]) [] S R _
    refine h_sizeOf _ ?_
    refine w_st rfl (fun _ => rfl) ?_
    show w_T L xs 6 m_X12_fair 16 [(0, .ref 100), (1, .int sI)] [.ref 100, .int (v_pop sI)] S R Q
    refine w_get rfl v_tyM rfl ?_
    show w_T L xs 6 m_X12_fair 19 [(0, .ref 100), (1, .int sI)] [.int (S 99 1), .int (v_pop sI)] S R Q
    refine w_br (P := (v_pop sI) ≤ (S 99 1)) rfl (fun _ => rfl) (fun h19 => ?_) (fun h19 => ?_)
    · refine w_st rfl (fun _ => rfl) ?_
      refine w_st rfl (fun _ => rfl) ?_
      show w_T L xs 6 m_X12_fair 26 [(0, .ref 100), (1, .int sI)] [.int sI, .ref 100] S R Q
      refine w_cv rfl (by decide) mt_X12_takesSome v_tyM rfl rfl rfl (Nat.le_of_ble_eq_true rfl) (Nat.le_of_ble_eq_true rfl) (Nat.le_of_ble_eq_true rfl) ?_
      show w_T L xs _ m_X12_takesSome 0 (lv_args 0 [.ref 100, .int sI]) [] S R _
      refine h_X12_takesSome (d := 4) sI S (by omega) (by omega) hT (fun S1 hT1 hS1 => ?_)
      have hO1 : v_Op S1 := v_fz_ok.1 S S1 (fun a j hf => hS1 a j (fun e => by rw [e.1, f3] at hf; cases hf)) hO
      have hF1 : v_Fr [(99, 1, 1), (152, 0, 12), (165, 0, 5)] S R S1 R := fun a j hm => ⟨hS1 a j (fun e => by rw [e.1, c3 j e.2] at hm; cases hm), rfl⟩
      refine w_st rfl (fun _ => rfl) ?_
      refine w_st rfl (fun _ => rfl) ?_
      refine w_st rfl (fun _ => rfl) ?_
      show w_T L xs 6 m_X12_fair 32 [(2, .int (v_pop sI)), (0, .ref 100), (1, .int sI)] [.int (Int32.ofInt 0), .ref 100] S1 R Q
      refine w_put rfl v_tyM rfl rfl rfl ?_
      have hT2 : v_Tb v_ty (v_ur S1 99 (upd (S1 99) 1 (Int32.ofInt 0))) R := w_TbF hT1 v_tyM rfl (by decide) (by decide)
      have hO2 : v_Op (v_ur S1 99 (upd (S1 99) 1 (Int32.ofInt 0))) := w_Op_ur rfl hO1
      have hF2 : v_Fr [(99, 1, 1), (152, 0, 12), (165, 0, 5)] S R (v_ur S1 99 (upd (S1 99) 1 (Int32.ofInt 0))) R := v_Fr_tr hF1 (v_Fr_ur _ _ _ (by decide +kernel))
      refine w_st rfl (fun _ => rfl) ?_
      refine w_st rfl (fun _ => rfl) ?_
      show w_T L xs 6 m_X12_fair 37 [(3, .int (Int32.ofInt 0)), (2, .int (v_pop sI)), (0, .ref 100), (1, .int sI)] [] (v_ur S1 99 (upd (S1 99) 1 (Int32.ofInt 0))) R Q
      refine h_fA (d := 2) R _ sI 5 0 _ rfl hT2 hO2 (fun S3 a1 a2 a3 => ?_)
      have hF3 := v_Fr_tr hF2 a3
      have n1 : 1 ≤ (v_pop sI).toInt := hu.2.2.1
      have n2 : (v_pop sI).toInt ≤ 6 := hu.2.2.2
      have hz : ((0 : Nat) : Int) < (v_pop sI).toInt := by omega
      refine h_fbA (d := 2) S3 R _ sI 0 0 hz n2 a1 a2 (fun S4 v q1 q2 q3 => hq S4 v q1 q2 (v_Fr_tr hF3 q3)) (fun S4 b4 k1 k2 k3 k4 => ?_)
      have hF4 := v_Fr_tr hF3 k3
      refine h_fB (d := 2) R _ sI n2 ((v_pop sI).toInt.toNat - 1) 1 S4 b4 (by omega) k1 k2 (fun j hj => ?_) (fun S5 v q1 q2 q3 => hq S5 v q1 q2 (v_Fr_tr hF4 q3)) (fun S5 m1 m2 m3 m4 => ?_)
      · obtain rfl : j = 0 := by omega
        rw [(k3 100 0 rfl).1]
        exact k4
      · refine h_foA (d := 2) hH hK S5 R _ sI _ 0 0 0 hz n2 m1 m2 (m4 0 hz) (fun h1 o1 c1 => ?_)
        exact h_fO (d := 2) hH hK S5 R _ sI n2 m1 m2 m4 (fun v => hq S5 v m1 m2 (v_Fr_tr hF4 m3)) ((v_pop sI).toInt.toNat - 1) 1 h1 o1 c1 (by omega)
    · refine w_st rfl (fun _ => rfl) ?_
      show w_T L xs 6 m_X12_fair 23 [(0, .ref 100), (1, .int sI)] [.int (Int32.ofInt (-1))] S R Q
      refine w_ret rfl rfl ?_
      exact hq S _ hT hO (v_Fr_rf _ _ _)
end FR
