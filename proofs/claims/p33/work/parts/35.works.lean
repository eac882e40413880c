/-! works: a stretch of code is gone through -/
noncomputable abbrev m_X12_works : g_M := (g_cn 12, yX12_works, cX12_works, 5, none, g_look2 ttX12_works)
set_option maxRecDepth 20000 in
theorem mt_X12_works : g_mt 198 = some m_X12_works := rfl
noncomputable abbrev m_X12_does : g_M := (g_cn 12, yX12_does, cX12_does, 4, none, g_look2 ttX12_does)
set_option maxRecDepth 20000 in
theorem mt_X12_does : g_mt 197 = some m_X12_does := rfl
noncomputable abbrev m_X12_valueOf : g_M := (g_cn 12, yX12_valueOf, cX12_valueOf, 2, (some .int), g_look2 ttX12_valueOf)
set_option maxRecDepth 20000 in
theorem mt_X12_valueOf : g_mt 195 = some m_X12_valueOf := rfl
theorem v_Fr_rf (m : List (Nat × Nat × Nat)) (S : v_Sf) (R : v_Rf) : v_Fr m S R S R := fun _ _ _ => ⟨rfl, rfl⟩
theorem v_Fr_tr {m : List (Nat × Nat × Nat)} {S S1 S2 : v_Sf} {R R1 R2 : v_Rf} (h1 : v_Fr m S R S1 R1) (h2 : v_Fr m S1 R1 S2 R2) : v_Fr m S R S2 R2 := fun a j hm => ⟨(h2 a j hm).1.trans (h1 a j hm).1, (h2 a j hm).2.trans (h1 a j hm).2⟩
theorem v_Fr_ur {m : List (Nat × Nat × Nat)} (S : v_Sf) (R : v_Rf) {a j : Nat} (v : Int32) (h : v_md m a j j = true) : v_Fr m S R (v_ur S a (upd (S a) j v)) R := fun a' j' hm => ⟨w_urn (fun e => by rw [e.1, e.2, h] at hm; cases hm), rfl⟩
theorem v_Fr_sub {m m2 : List (Nat × Nat × Nat)} (h : v_sub m m2 = true) {S S1 : v_Sf} {R R1 : v_Rf} (h1 : v_Fr m S R S1 R1) : v_Fr m2 S R S1 R1 := fun a j hm => h1 a j (v_sub_md h hm)
theorem w_Op_ur {S : v_Sf} {a j : Nat} {v : Int32} (hf : v_frz a j j = false) (hO : v_Op S) : v_Op (v_ur S a (upd (S a) j v)) := v_fz_ok.1 S _ (fun a' j' h => w_urn (fun e => by rw [e.1, e.2, hf] at h; cases h)) hO
theorem w_dec {k : Nat} (h : 0 < k) : Int32.ofInt (k : Int) + Int32.ofInt (-1) = Int32.ofInt ((k - 1 : Nat) : Int) := by
  rw [← Int32.ofInt_add]
  congr 1
  omega
theorem w_dec2 {k : Nat} (h : 0 < k) : Int32.ofInt (k : Int) - Int32.ofInt 1 = Int32.ofInt ((k - 1 : Nat) : Int) := by
  rw [← Int32.ofInt_sub]
  congr 1
  omega
set_option maxHeartbeats 2000000 in
theorem h_works1 {L : Nat} {xs : Nat → Int32} {d : Nat} {Q : Option Value → v_Sf → v_Rf → Prop} (hD : v_Met L xs v_ty v_Op 197 rw_187) (hV : v_Met L xs v_ty v_Op 195 rw_185) (fI : Int32) (to : Nat) (hto : to ≤ 480) : ∀ (m i dep : Nat) (S : v_Sf) (R : v_Rf), i + m = to → dep + m ≤ 240 → v_seg (S 105) m i dep → v_Tb v_ty S R → v_Op S → (∀ S' R', v_Tb v_ty S' R' → v_Op S' → v_Fr [(114, 0, 240), (115, 0, 240)] S R S' R' → Q none S' R') → w_T L xs (d + 4) m_X12_works 5 [(4, .int (Int32.ofInt (i : Int))), (3, .int (Int32.ofInt (dep : Int))), (0, .ref 100), (1, .int fI), (2, .int (Int32.ofInt (to : Int)))] [] S R Q := by
  have f1 : ∀ j, v_frz 114 j j = false := fun j => rfl
  have f2 : ∀ j, v_frz 115 j j = false := fun j => rfl
  have c1 : ∀ j, v_md [(114, 0, 240), (115, 0, 240)] 105 j j = false := fun j => rfl
  have g1 : ∀ j, j ≤ 240 → v_md [(114, 0, 240), (115, 0, 240)] 114 j j = true := fun j hj => v_md_mono (lo := 0) (hi := 240) (by decide +kernel) (Nat.zero_le _) hj
  have g2 : ∀ j, j ≤ 240 → v_md [(114, 0, 240), (115, 0, 240)] 115 j j = true := fun j hj => v_md_mono (lo := 0) (hi := 240) (by decide +kernel) (Nat.zero_le _) hj
  have e2 : (Int32.ofInt 2).toInt = 2 := by decide
  have et : (Int32.ofInt (to : Int)).toInt = (to : Int) := w_nat (by omega)
  intro m
  induction m with
  | zero =>
    intro i dep S R him hdm hs hT hO hq
    have ei := w_nat (k := i) (by omega)
    refine w_st rfl (fun _ => rfl) ?_
    refine w_st rfl (fun _ => rfl) ?_
    show w_T L xs (d + 4) m_X12_works 8 [(4, .int (Int32.ofInt (i : Int))), (3, .int (Int32.ofInt (dep : Int))), (0, .ref 100), (1, .int fI), (2, .int (Int32.ofInt (to : Int)))] [.int (Int32.ofInt (to : Int)), .int (Int32.ofInt (i : Int))] S R Q
    refine w_br (P := (Int32.ofInt (to : Int)) ≤ (Int32.ofInt (i : Int))) rfl (fun _ => rfl) (fun h8 => ?_) (fun h8 => ?_)
    · refine w_ret rfl rfl ?_
      exact hq S R hT hO (v_Fr_rf _ _ _)
    · exfalso; rw [q_le32, et, ei] at h8; omega
  | succ m ih =>
    intro i dep S R him hdm hs hT hO hq
    have ei := w_nat (k := i) (by omega)
    have ein : (Int32.ofInt (i : Int)).toInt.toNat = i := by rw [ei]; omega
    have ed := w_nat (k := dep) (by omega)
    have edn : (Int32.ofInt (dep : Int)).toInt.toNat = dep := by rw [ed]; omega
    unfold v_seg at hs
    refine w_st rfl (fun _ => rfl) ?_
    refine w_st rfl (fun _ => rfl) ?_
    show w_T L xs (d + 4) m_X12_works 8 [(4, .int (Int32.ofInt (i : Int))), (3, .int (Int32.ofInt (dep : Int))), (0, .ref 100), (1, .int fI), (2, .int (Int32.ofInt (to : Int)))] [.int (Int32.ofInt (to : Int)), .int (Int32.ofInt (i : Int))] S R Q
    refine w_br (P := (Int32.ofInt (to : Int)) ≤ (Int32.ofInt (i : Int))) rfl (fun _ => rfl) (fun h8 => ?_) (fun h8 => ?_)
    · exfalso; rw [q_le32, et, ei] at h8; omega
    · refine w_st rfl (fun _ => rfl) ?_
      show w_T L xs (d + 4) m_X12_works 12 [(4, .int (Int32.ofInt (i : Int))), (3, .int (Int32.ofInt (dep : Int))), (0, .ref 100), (1, .int fI), (2, .int (Int32.ofInt (to : Int)))] [.ref 100] S R Q
      refine w_getr rfl v_tyM rfl ?_
      refine w_st rfl (fun _ => rfl) ?_
      show w_T L xs (d + 4) m_X12_works 17 [(4, .int (Int32.ofInt (i : Int))), (3, .int (Int32.ofInt (dep : Int))), (0, .ref 100), (1, .int fI), (2, .int (Int32.ofInt (to : Int)))] [.int (Int32.ofInt (i : Int)), .ref 106] S R Q
      refine w_iald rfl rfl (by rw [ei]; omega) (by rw [ei]; omega) ?_
      rw [ein]
      refine w_st rfl (fun _ => rfl) ?_
      show w_T L xs (d + 4) m_X12_works 19 [(4, .int (Int32.ofInt (i : Int))), (3, .int (Int32.ofInt (dep : Int))), (0, .ref 100), (1, .int fI), (2, .int (Int32.ofInt (to : Int)))] [.int (Int32.ofInt 2), .int (S 105 i)] S R Q
      refine w_br (P := (S 105 i) ≤ (Int32.ofInt 2)) rfl (fun _ => rfl) (fun h19 => ?_) (fun h19 => ?_)
      · have h2c : ¬ S 105 i > 2 := by
          rw [q_le32, e2] at h19
          show ¬ (2 : Int32) < _
          rw [q_lt32]
          show ¬ (2 : Int) < _
          omega
        rw [if_neg h2c] at hs
        refine w_st rfl (fun _ => rfl) ?_
        show w_T L xs (d + 4) m_X12_works 43 [(4, .int (Int32.ofInt (i : Int))), (3, .int (Int32.ofInt (dep : Int))), (0, .ref 100), (1, .int fI), (2, .int (Int32.ofInt (to : Int)))] [.ref 100] S R Q
        refine w_getr rfl v_tyM rfl ?_
        refine w_st rfl (fun _ => rfl) ?_
        show w_T L xs (d + 4) m_X12_works 48 [(4, .int (Int32.ofInt (i : Int))), (3, .int (Int32.ofInt (dep : Int))), (0, .ref 100), (1, .int fI), (2, .int (Int32.ofInt (to : Int)))] [.int (Int32.ofInt (i : Int)), .ref 106] S R Q
        refine w_iald rfl rfl (by rw [ei]; omega) (by rw [ei]; omega) ?_
        rw [ein]
        refine w_st rfl (fun _ => rfl) ?_
        show w_T L xs (d + 4) m_X12_works 50 [(4, .int (Int32.ofInt (i : Int))), (3, .int (Int32.ofInt (dep : Int))), (0, .ref 100), (1, .int fI), (2, .int (Int32.ofInt (to : Int)))] [.int (Int32.ofInt 2), .int (S 105 i)] S R Q
        refine w_br (P := ¬ (S 105 i) = (Int32.ofInt 2)) rfl (fun _ => rfl) (fun h50 => ?_) (fun h50 => ?_)
        · have h3c : ¬ S 105 i = 2 := h50
          rw [if_neg h3c] at hs
          refine w_st rfl (fun _ => rfl) ?_
          show w_T L xs (d + 4) m_X12_works 75 [(4, .int (Int32.ofInt (i : Int))), (3, .int (Int32.ofInt (dep : Int))), (0, .ref 100), (1, .int fI), (2, .int (Int32.ofInt (to : Int)))] [.ref 100] S R Q
          refine w_getr rfl v_tyM rfl ?_
          refine w_st rfl (fun _ => rfl) ?_
          refine w_st rfl (fun _ => rfl) ?_
          show w_T L xs (d + 4) m_X12_works 80 [(4, .int (Int32.ofInt (i : Int))), (3, .int (Int32.ofInt (dep : Int))), (0, .ref 100), (1, .int fI), (2, .int (Int32.ofInt (to : Int)))] [.int (Int32.ofInt 0), .int (Int32.ofInt (dep : Int)), .ref 116] S R Q
          refine w_bast rfl rfl (Or.inr ⟨rfl, rfl⟩) (by rw [ed]; omega) (by rw [ed]; omega) ?_
          have hT3 : v_Tb v_ty (v_ur S 115 (upd (S 115) (Int32.ofInt (dep : Int)).toInt.toNat (Int32.ofInt 0))) R := w_TbR hT (a := 115) rfl (by decide) (by decide)
          have hO3 : v_Op (v_ur S 115 (upd (S 115) (Int32.ofInt (dep : Int)).toInt.toNat (Int32.ofInt 0))) := w_Op_ur (f2 _) hO
          have hF3 : v_Fr [(114, 0, 240), (115, 0, 240)] S R (v_ur S 115 (upd (S 115) (Int32.ofInt (dep : Int)).toInt.toNat (Int32.ofInt 0))) R := v_Fr_ur _ _ _ (g2 _ (by rw [edn]; omega))
          refine w_st rfl (fun _ => rfl) ?_
          show w_T L xs (d + 4) m_X12_works 82 [(4, .int (Int32.ofInt (i : Int))), (3, .int (Int32.ofInt (dep : Int))), (0, .ref 100), (1, .int fI), (2, .int (Int32.ofInt (to : Int)))] [.ref 100] (v_ur S 115 (upd (S 115) (Int32.ofInt (dep : Int)).toInt.toNat (Int32.ofInt 0))) R Q
          refine w_getr rfl v_tyM rfl ?_
          refine w_st rfl (fun _ => rfl) ?_
          refine w_st rfl (fun _ => rfl) ?_
          show w_T L xs (d + 4) m_X12_works 87 [(4, .int (Int32.ofInt (i : Int))), (3, .int (Int32.ofInt (dep : Int))), (0, .ref 100), (1, .int fI), (2, .int (Int32.ofInt (to : Int)))] [.ref 100, .int (Int32.ofInt (dep : Int)), .ref 115] (v_ur S 115 (upd (S 115) (Int32.ofInt (dep : Int)).toInt.toNat (Int32.ofInt 0))) R Q
          refine w_getr rfl v_tyM rfl ?_
          refine w_st rfl (fun _ => rfl) ?_
          show w_T L xs (d + 4) m_X12_works 92 [(4, .int (Int32.ofInt (i : Int))), (3, .int (Int32.ofInt (dep : Int))), (0, .ref 100), (1, .int fI), (2, .int (Int32.ofInt (to : Int)))] [.int (Int32.ofInt (i : Int)), .ref 106, .int (Int32.ofInt (dep : Int)), .ref 115] (v_ur S 115 (upd (S 115) (Int32.ofInt (dep : Int)).toInt.toNat (Int32.ofInt 0))) R Q
          refine w_iald rfl rfl (by rw [ei]; omega) (by rw [ei]; omega) ?_
          rw [ein]
          show w_T L xs (d + 4) m_X12_works 93 [(4, .int (Int32.ofInt (i : Int))), (3, .int (Int32.ofInt (dep : Int))), (0, .ref 100), (1, .int fI), (2, .int (Int32.ofInt (to : Int)))] [.int ((v_ur S 115 (upd (S 115) (Int32.ofInt (dep : Int)).toInt.toNat (Int32.ofInt 0))) 105 i), .int (Int32.ofInt (dep : Int)), .ref 115] (v_ur S 115 (upd (S 115) (Int32.ofInt (dep : Int)).toInt.toNat (Int32.ofInt 0))) R Q
          refine w_br (P := ¬ ((v_ur S 115 (upd (S 115) (Int32.ofInt (dep : Int)).toInt.toNat (Int32.ofInt 0))) 105 i) = 0) rfl (fun _ => rfl) (fun h93 => ?_) (fun h93 => ?_)
          · refine w_st rfl (fun _ => rfl) ?_
            refine w_st rfl (fun _ => rfl) ?_
            show w_T L xs (d + 4) m_X12_works 108 [(4, .int (Int32.ofInt (i : Int))), (3, .int (Int32.ofInt (dep : Int))), (0, .ref 100), (1, .int fI), (2, .int (Int32.ofInt (to : Int)))] [.ref 100, .ref 100, .int (Int32.ofInt (dep : Int)), .ref 115] (v_ur S 115 (upd (S 115) (Int32.ofInt (dep : Int)).toInt.toNat (Int32.ofInt 0))) R Q
            refine w_getr rfl v_tyM rfl ?_
            refine w_st rfl (fun _ => rfl) ?_
            show w_T L xs (d + 4) m_X12_works 113 [(4, .int (Int32.ofInt (i : Int))), (3, .int (Int32.ofInt (dep : Int))), (0, .ref 100), (1, .int fI), (2, .int (Int32.ofInt (to : Int)))] [.int (Int32.ofInt (i : Int)), .ref 107, .ref 100, .int (Int32.ofInt (dep : Int)), .ref 115] (v_ur S 115 (upd (S 115) (Int32.ofInt (dep : Int)).toInt.toNat (Int32.ofInt 0))) R Q
            refine w_iald rfl rfl (by rw [ei]; omega) (by rw [ei]; omega) ?_
            rw [ein]
            show w_T L xs (d + 4) m_X12_works 114 [(4, .int (Int32.ofInt (i : Int))), (3, .int (Int32.ofInt (dep : Int))), (0, .ref 100), (1, .int fI), (2, .int (Int32.ofInt (to : Int)))] [.int ((v_ur S 115 (upd (S 115) (Int32.ofInt (dep : Int)).toInt.toNat (Int32.ofInt 0))) 106 i), .ref 100, .int (Int32.ofInt (dep : Int)), .ref 115] (v_ur S 115 (upd (S 115) (Int32.ofInt (dep : Int)).toInt.toNat (Int32.ofInt 0))) R Q
            refine w_cv rfl (by decide) mt_X12_valueOf v_tyM rfl rfl rfl (Nat.le_of_ble_eq_true rfl) (Nat.le_of_ble_eq_true rfl) (Nat.le_of_ble_eq_true rfl) ?_
            show w_T L xs _ m_X12_valueOf 0 (lv_args 0 [.ref 100, .int ((v_ur S 115 (upd (S 115) (Int32.ofInt (dep : Int)).toInt.toNat (Int32.ofInt 0))) 106 i)]) [] (v_ur S 115 (upd (S 115) (Int32.ofInt (dep : Int)).toInt.toNat (Int32.ofInt 0))) R _
            refine w_met hV (Nat.le_of_ble_eq_true rfl) mt_X12_valueOf ⟨rfl, ⟨_, rfl, (q_rng _).1, (q_rng _).2⟩, trivial⟩ hT3 hO3 (fun r S1 R1 hT1 hO1 hr hF => ?_)
            obtain ⟨u, hr, -, -⟩ := hr
            subst hr
            show w_T L xs (d + 4) m_X12_works 117 [(4, .int (Int32.ofInt (i : Int))), (3, .int (Int32.ofInt (dep : Int))), (0, .ref 100), (1, .int fI), (2, .int (Int32.ofInt (to : Int)))] [.int u, .int (Int32.ofInt (dep : Int)), .ref 115] S1 R1 Q
            refine w_iast rfl rfl (by rw [ed]; omega) (by rw [ed]; omega) ?_
            refine w_st rfl (fun _ => rfl) ?_
            refine w_st rfl (fun _ => rfl) ?_
            refine w_st rfl (fun _ => rfl) ?_
            show w_T L xs (d + 4) m_X12_works 5 [(4, .int ((Int32.ofInt (i : Int)) + Int32.ofInt 1)), (3, .int ((Int32.ofInt (dep : Int)) + Int32.ofInt 1)), (0, .ref 100), (1, .int fI), (2, .int (Int32.ofInt (to : Int)))] [] (v_ur S1 114 (upd (S1 114) (Int32.ofInt (dep : Int)).toInt.toNat u)) R1 Q
            rw [w_inc, w_inc]
            refine ih (i + 1) (dep + 1) _ R1 (by omega) (by omega) ?_ (w_TbR hT1 (a := 114) rfl (q_rng _).1 (q_rng _).2) (w_Op_ur (f1 _) hO1) (fun S2 R2 k1 k2 k3 => hq S2 R2 k1 k2 (v_Fr_tr (v_Fr_tr hF3 (v_Fr_sub (by decide +kernel) hF)) (v_Fr_tr (v_Fr_ur _ _ _ (g1 _ (by rw [edn]; omega))) k3)))
            have ec : (v_ur S1 114 (upd (S1 114) (Int32.ofInt (dep : Int)).toInt.toNat u)) 105 = S 105 := funext (fun j => by
              rw [v_ur_n _ _ (by decide), (v_Fr_sub (m2 := [(114, 0, 240), (115, 0, 240)]) (by decide +kernel) hF 105 j (c1 j)).1]
              exact (hF3 105 j (c1 j)).1)
            rw [ec]
            exact hs
          · refine w_st rfl (fun _ => rfl) ?_
            show w_T L xs (d + 4) m_X12_works 97 [(4, .int (Int32.ofInt (i : Int))), (3, .int (Int32.ofInt (dep : Int))), (0, .ref 100), (1, .int fI), (2, .int (Int32.ofInt (to : Int)))] [.ref 100, .int (Int32.ofInt (dep : Int)), .ref 115] (v_ur S 115 (upd (S 115) (Int32.ofInt (dep : Int)).toInt.toNat (Int32.ofInt 0))) R Q
            refine w_getr rfl v_tyM rfl ?_
            refine w_st rfl (fun _ => rfl) ?_
            show w_T L xs (d + 4) m_X12_works 102 [(4, .int (Int32.ofInt (i : Int))), (3, .int (Int32.ofInt (dep : Int))), (0, .ref 100), (1, .int fI), (2, .int (Int32.ofInt (to : Int)))] [.int (Int32.ofInt (i : Int)), .ref 107, .int (Int32.ofInt (dep : Int)), .ref 115] (v_ur S 115 (upd (S 115) (Int32.ofInt (dep : Int)).toInt.toNat (Int32.ofInt 0))) R Q
            refine w_iald rfl rfl (by rw [ei]; omega) (by rw [ei]; omega) ?_
            rw [ein]
            refine w_st rfl (fun _ => rfl) ?_
            show w_T L xs (d + 4) m_X12_works 117 [(4, .int (Int32.ofInt (i : Int))), (3, .int (Int32.ofInt (dep : Int))), (0, .ref 100), (1, .int fI), (2, .int (Int32.ofInt (to : Int)))] [.int ((v_ur S 115 (upd (S 115) (Int32.ofInt (dep : Int)).toInt.toNat (Int32.ofInt 0))) 106 i), .int (Int32.ofInt (dep : Int)), .ref 115] (v_ur S 115 (upd (S 115) (Int32.ofInt (dep : Int)).toInt.toNat (Int32.ofInt 0))) R Q
            refine w_iast rfl rfl (by rw [ed]; omega) (by rw [ed]; omega) ?_
            refine w_st rfl (fun _ => rfl) ?_
            refine w_st rfl (fun _ => rfl) ?_
            refine w_st rfl (fun _ => rfl) ?_
            show w_T L xs (d + 4) m_X12_works 5 [(4, .int ((Int32.ofInt (i : Int)) + Int32.ofInt 1)), (3, .int ((Int32.ofInt (dep : Int)) + Int32.ofInt 1)), (0, .ref 100), (1, .int fI), (2, .int (Int32.ofInt (to : Int)))] [] (v_ur (v_ur S 115 (upd (S 115) (Int32.ofInt (dep : Int)).toInt.toNat (Int32.ofInt 0))) 114 (upd ((v_ur S 115 (upd (S 115) (Int32.ofInt (dep : Int)).toInt.toNat (Int32.ofInt 0))) 114) (Int32.ofInt (dep : Int)).toInt.toNat ((v_ur S 115 (upd (S 115) (Int32.ofInt (dep : Int)).toInt.toNat (Int32.ofInt 0))) 106 i))) R Q
            rw [w_inc, w_inc]
            refine ih (i + 1) (dep + 1) _ R (by omega) (by omega) ?_ (w_TbR hT3 (a := 114) rfl (q_rng _).1 (q_rng _).2) (w_Op_ur (f1 _) hO3) (fun S2 R2 k1 k2 k3 => hq S2 R2 k1 k2 (v_Fr_tr (v_Fr_tr hF3 (v_Fr_ur _ _ _ (g1 _ (by rw [edn]; omega)))) k3))
            rw [v_ur_n _ _ (by decide), v_ur_n _ _ (by decide)]
            exact hs
        · have h3c : S 105 i = 2 := Decidable.of_not_not h50
          rw [if_pos h3c] at hs
          refine w_st rfl (fun _ => rfl) ?_
          show w_T L xs (d + 4) m_X12_works 54 [(4, .int (Int32.ofInt (i : Int))), (3, .int (Int32.ofInt (dep : Int))), (0, .ref 100), (1, .int fI), (2, .int (Int32.ofInt (to : Int)))] [.ref 100] S R Q
          refine w_getr rfl v_tyM rfl ?_
          refine w_st rfl (fun _ => rfl) ?_
          refine w_st rfl (fun _ => rfl) ?_
          refine w_st rfl (fun _ => rfl) ?_
          refine w_st rfl (fun _ => rfl) ?_
          refine w_st rfl (fun _ => rfl) ?_
          show w_T L xs (d + 4) m_X12_works 62 [(4, .int (Int32.ofInt (i : Int))), (3, .int (Int32.ofInt (dep : Int))), (0, .ref 100), (1, .int fI), (2, .int (Int32.ofInt (to : Int)))] [.ref 100, .int (Int32.ofInt 1), .int ((Int32.ofInt (dep : Int)) - (Int32.ofInt 1)), .ref 115] S R Q
          refine w_getr rfl v_tyM rfl ?_
          refine w_st rfl (fun _ => rfl) ?_
          refine w_st rfl (fun _ => rfl) ?_
          refine w_st rfl (fun _ => rfl) ?_
          show w_T L xs (d + 4) m_X12_works 68 [(4, .int (Int32.ofInt (i : Int))), (3, .int (Int32.ofInt (dep : Int))), (0, .ref 100), (1, .int fI), (2, .int (Int32.ofInt (to : Int)))] [.int ((Int32.ofInt (dep : Int)) - (Int32.ofInt 1)), .ref 115, .int (Int32.ofInt 1), .int ((Int32.ofInt (dep : Int)) - (Int32.ofInt 1)), .ref 115] S R Q
          refine w_iald rfl rfl (by rw [w_dec2 (by omega), w_nat (by omega)]; omega) (by rw [w_dec2 (by omega), w_nat (by omega)]; omega) ?_
          refine w_st rfl (fun _ => rfl) ?_
          show w_T L xs (d + 4) m_X12_works 70 [(4, .int (Int32.ofInt (i : Int))), (3, .int (Int32.ofInt (dep : Int))), (0, .ref 100), (1, .int fI), (2, .int (Int32.ofInt (to : Int)))] [.int ((Int32.ofInt 1) - (S 114 ((Int32.ofInt (dep : Int)) - (Int32.ofInt 1)).toInt.toNat)), .int ((Int32.ofInt (dep : Int)) - (Int32.ofInt 1)), .ref 115] S R Q
          refine w_iast rfl rfl (by rw [w_dec2 (by omega), w_nat (by omega)]; omega) (by rw [w_dec2 (by omega), w_nat (by omega)]; omega) ?_
          refine w_st rfl (fun _ => rfl) ?_
          refine w_st rfl (fun _ => rfl) ?_
          refine w_st rfl (fun _ => rfl) ?_
          show w_T L xs (d + 4) m_X12_works 5 [(4, .int ((Int32.ofInt (i : Int)) + Int32.ofInt 1)), (3, .int (Int32.ofInt (dep : Int))), (0, .ref 100), (1, .int fI), (2, .int (Int32.ofInt (to : Int)))] [] (v_ur S 114 (upd (S 114) ((Int32.ofInt (dep : Int)) - (Int32.ofInt 1)).toInt.toNat ((Int32.ofInt 1) - (S 114 ((Int32.ofInt (dep : Int)) - (Int32.ofInt 1)).toInt.toNat)))) R Q
          rw [w_inc]
          refine ih (i + 1) dep _ R (by omega) (by omega) ?_ (w_TbR hT (a := 114) rfl (q_rng _).1 (q_rng _).2) (w_Op_ur (f1 _) hO) (fun S2 R2 k1 k2 k3 => hq S2 R2 k1 k2 (v_Fr_tr (v_Fr_ur _ _ _ (g1 _ (by rw [w_dec2 (by omega), w_nat (by omega)]; omega))) k3))
          rw [v_ur_n _ _ (by decide)]
          exact hs.2
      · have h2c : S 105 i > 2 := by
          rw [q_le32, e2] at h19
          show (2 : Int32) < _
          rw [q_lt32]
          show (2 : Int) < _
          omega
        rw [if_pos h2c] at hs
        refine w_st rfl (fun _ => rfl) ?_
        refine w_st rfl (fun _ => rfl) ?_
        refine w_st rfl (fun _ => rfl) ?_
        show w_T L xs (d + 4) m_X12_works 27 [(3, .int ((Int32.ofInt (dep : Int)) + Int32.ofInt (-1))), (4, .int (Int32.ofInt (i : Int))), (0, .ref 100), (1, .int fI), (2, .int (Int32.ofInt (to : Int)))] [.ref 100, .ref 100] S R Q
        refine w_getr rfl v_tyM rfl ?_
        refine w_st rfl (fun _ => rfl) ?_
        show w_T L xs (d + 4) m_X12_works 32 [(3, .int ((Int32.ofInt (dep : Int)) + Int32.ofInt (-1))), (4, .int (Int32.ofInt (i : Int))), (0, .ref 100), (1, .int fI), (2, .int (Int32.ofInt (to : Int)))] [.int (Int32.ofInt (i : Int)), .ref 106, .ref 100] S R Q
        refine w_iald rfl rfl (by rw [ei]; omega) (by rw [ei]; omega) ?_
        rw [ein]
        refine w_st rfl (fun _ => rfl) ?_
        refine w_st rfl (fun _ => rfl) ?_
        refine w_st rfl (fun _ => rfl) ?_
        show w_T L xs (d + 4) m_X12_works 36 [(3, .int ((Int32.ofInt (dep : Int)) + Int32.ofInt (-1))), (4, .int (Int32.ofInt (i : Int))), (0, .ref 100), (1, .int fI), (2, .int (Int32.ofInt (to : Int)))] [.int (((Int32.ofInt (dep : Int)) + Int32.ofInt (-1)) - (Int32.ofInt 1)), .int (S 105 i), .ref 100] S R Q
        refine w_cv rfl (by decide) mt_X12_does v_tyM rfl rfl rfl (Nat.le_of_ble_eq_true rfl) (Nat.le_of_ble_eq_true rfl) (Nat.le_of_ble_eq_true rfl) ?_
        show w_T L xs _ m_X12_does 0 (lv_args 0 [.ref 100, .int (S 105 i), .int (((Int32.ofInt (dep : Int)) + Int32.ofInt (-1)) - (Int32.ofInt 1))]) [] S R _
        refine w_met hD (Nat.le_of_ble_eq_true rfl) mt_X12_does ⟨rfl, ⟨_, rfl, (q_rng _).1, (q_rng _).2⟩, ⟨_, rfl, by rw [w_dec (by omega), w_dec2 (by omega), w_nat (by omega)]; show (0 : Int) ≤ _; omega, by rw [w_dec (by omega), w_dec2 (by omega), w_nat (by omega)]; show _ ≤ (238 : Int); omega⟩, trivial⟩ hT hO (fun r S1 R1 hT1 hO1 hr hF => ?_)
        have hr : r = none := hr
        subst hr
        refine w_st rfl (fun _ => rfl) ?_
        refine w_st rfl (fun _ => rfl) ?_
        refine w_st rfl (fun _ => rfl) ?_
        show w_T L xs (d + 4) m_X12_works 5 [(4, .int ((Int32.ofInt (i : Int)) + Int32.ofInt 1)), (3, .int ((Int32.ofInt (dep : Int)) + Int32.ofInt (-1))), (0, .ref 100), (1, .int fI), (2, .int (Int32.ofInt (to : Int)))] [] S1 R1 Q
        rw [w_dec (by omega), w_inc]
        refine ih (i + 1) (dep - 1) S1 R1 (by omega) (by omega) ?_ hT1 hO1 (fun S2 R2 k1 k2 k3 => hq S2 R2 k1 k2 (v_Fr_tr (v_Fr_sub (by decide +kernel) hF) k3))
        have ec : S1 105 = S 105 := funext (fun j => (v_Fr_sub (m2 := [(114, 0, 240), (115, 0, 240)]) (by decide +kernel) hF 105 j (c1 j)).1)
        rw [ec]
        exact hs.2
theorem h_works {L : Nat} {xs : Nat → Int32} {d : Nat} {Q : Option Value → v_Sf → v_Rf → Prop} (hD : v_Met L xs v_ty v_Op 197 rw_187) (hV : v_Met L xs v_ty v_Op 195 rw_185) (a b : Int32) (S : v_Sf) (R : v_Rf) (hs : v_stretch (S 105) a b) (hT : v_Tb v_ty S R) (hO : v_Op S) (hq : ∀ S' R', v_Tb v_ty S' R' → v_Op S' → v_Fr [(114, 0, 240), (115, 0, 240)] S R S' R' → Q none S' R') : w_T L xs (d + 4) m_X12_works 0 (lv_args 0 [.ref 100, .int a, .int b]) [] S R Q := by
  obtain ⟨s1, s2, s3, s4, s5⟩ := hs
  have ea : a = Int32.ofInt ((a.toInt.toNat : Nat) : Int) := by rw [show ((a.toInt.toNat : Nat) : Int) = a.toInt by omega, q_of]
  have eb : b = Int32.ofInt ((b.toInt.toNat : Nat) : Int) := by rw [show ((b.toInt.toNat : Nat) : Int) = b.toInt by omega, q_of]
  refine w_st rfl (fun _ => rfl) ?_
  refine w_st rfl (fun _ => rfl) ?_
  refine w_st rfl (fun _ => rfl) ?_
  refine w_st rfl (fun _ => rfl) ?_
  show w_T L xs (d + 4) m_X12_works 5 [(4, .int a), (3, .int (Int32.ofInt 0)), (0, .ref 100), (1, .int a), (2, .int b)] [] S R Q
  have h9 := h_works1 (Q := Q) (d := d) hD hV a b.toInt.toNat (by omega) (b.toInt - a.toInt).toNat a.toInt.toNat 0 S R (by omega) (by omega) s5 hT hO hq
  rw [← ea, ← eb] at h9
  exact h9
