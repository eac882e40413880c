/-! takesSome, takesPlaces; the hooks that are proved by hand tell the truth -/
theorem w_nat {k : Nat} (h : k < 2000000000) : (Int32.ofInt (k : Int)).toInt = (k : Int) := q_ofr (by omega) (by omega)
theorem w_inc (k : Nat) : Int32.ofInt (k : Int) + Int32.ofInt 1 = Int32.ofInt ((k + 1 : Nat) : Int) := by rw [← Int32.ofInt_add]; rfl
theorem w_TbR {S : v_Sf} {R : v_Rf} (hT : v_Tb v_ty S R) {a tg n : Nat} {lo hi : Int} (hg : v_ty a = some (.inl (tg, n, lo, hi))) {j : Nat} {v : Int32} (h1 : lo ≤ v.toInt) (h2 : v.toInt ≤ hi) : v_Tb v_ty (v_ur S a (upd (S a) j v)) R := by
  have hT1 : v_TbC S R a _ := hT a _ hg
  refine v_Tb_row (X := (0, fun _ => 0, (v_ty, [], fun _ _ _ => true, fun _ _ => none, fun _ _ _ _ _ => none), fun _ => True, S, R)) hT hg (fun i hi' => ?_)
  by_cases hj : i = j
  · rw [upd, if_pos hj]; exact ⟨h1, h2⟩
  · rw [upd, if_neg hj]; exact hT1 i hi'
theorem w_TbF {S : v_Sf} {R : v_Rf} (hT : v_Tb v_ty S R) {a ci y : Nat} {fs : List v_Ft} {b : Int × Int} (hg : v_ty a = some (.inr (.inr (ci, fs)))) (hy : fs[y]? = some (.inl b)) {v : Int32} (h1 : b.1 ≤ v.toInt) (h2 : v.toInt ≤ b.2) : v_Tb v_ty (v_ur S a (upd (S a) y v)) R := v_Tb_fld (X := (0, fun _ => 0, (v_ty, [], fun _ _ _ => true, fun _ _ => none, fun _ _ _ _ _ => none), fun _ => True, S, R)) hT hg hy h1 h2
theorem w_urn {S : v_Sf} {a j : Nat} {v : Int32} {a' j' : Nat} (h : ¬ (a' = a ∧ j' = j)) : v_ur S a (upd (S a) j v) a' j' = S a' j' := by
  by_cases ha : a' = a
  · subst ha
    rw [v_ur_s]
    have : j' ≠ j := fun e => h ⟨rfl, e⟩
    simp [upd, this]
  · rw [v_ur_n _ _ ha]
theorem w_urs {S : v_Sf} {a j : Nat} {v : Int32} : v_ur S a (upd (S a) j v) a j = v := by
  rw [v_ur_s]
  simp [upd]
section HT
variable {L : Nat} {xs : Nat → Int32} {d : Nat} {R : v_Rf} {Q : Option Value → v_Sf → v_Rf → Prop}
theorem h_X12_takesSome1 (sI : Int32) (hs : 0 ≤ sI.toInt) : ∀ (m g : Nat) (S : v_Sf), g + m = 12 → v_Tb v_ty S R → (∀ S', v_Tb v_ty S' R → (∀ a j, ¬ (a = 152 ∧ j ≤ 12) → S' a j = S a j) → Q (some (.int (Int32.ofInt ((v_popN 12 sI.toInt.toNat : Nat) : Int)))) S' R) → w_T L xs (d + 1) m_X12_takesSome 4 [(3, .int (Int32.ofInt (g : Int))), (2, .int (Int32.ofInt ((v_popN g sI.toInt.toNat : Nat) : Int))), (0, .ref 100), (1, .int sI)] [] S R Q := by
  intro m
  induction m with
  | zero =>
    intro g S hg hT hq
    have eg := w_nat (k := g) (by omega)
    have e12 : (Int32.ofInt 12).toInt = 12 := by decide
    refine w_st rfl (fun _ => rfl) ?_
    refine w_st rfl (fun _ => rfl) ?_
    show w_T L xs (d + 1) m_X12_takesSome 7 [(3, .int (Int32.ofInt (g : Int))), (2, .int (Int32.ofInt ((v_popN g sI.toInt.toNat : Nat) : Int))), (0, .ref 100), (1, .int sI)] [.int (Int32.ofInt 12), .int (Int32.ofInt (g : Int))] S R Q
    refine w_br (P := (Int32.ofInt 12) ≤ (Int32.ofInt (g : Int))) rfl (fun _ => rfl) (fun h7 => ?_) (fun h7 => ?_)
    · refine w_st rfl (fun _ => rfl) ?_
      show w_T L xs (d + 1) m_X12_takesSome 38 [(3, .int (Int32.ofInt (g : Int))), (2, .int (Int32.ofInt ((v_popN g sI.toInt.toNat : Nat) : Int))), (0, .ref 100), (1, .int sI)] [.int (Int32.ofInt ((v_popN g sI.toInt.toNat : Nat) : Int))] S R Q
      refine w_ret rfl rfl ?_
      have e : g = 12 := by omega
      subst e
      exact hq S hT (fun _ _ _ => rfl)
    · exfalso; rw [q_le32, e12, eg] at h7; omega
  | succ m ih =>
    intro g S hg hT hq
    have eg := w_nat (k := g) (by omega)
    have e12 : (Int32.ofInt 12).toInt = 12 := by decide
    have hle := v_popN_f g sI.toInt.toNat
    have en := w_nat (k := v_popN g sI.toInt.toNat) (by omega)
    have hps := v_popN_s g sI.toInt.toNat
    have egn : (Int32.ofInt (g : Int)).toInt.toNat = g := by rw [eg]; omega
    have hbit := h_bit sI (Int32.ofInt (g : Int)) hs (by omega) (by omega)
    rw [egn] at hbit
    refine w_st rfl (fun _ => rfl) ?_
    refine w_st rfl (fun _ => rfl) ?_
    show w_T L xs (d + 1) m_X12_takesSome 7 [(3, .int (Int32.ofInt (g : Int))), (2, .int (Int32.ofInt ((v_popN g sI.toInt.toNat : Nat) : Int))), (0, .ref 100), (1, .int sI)] [.int (Int32.ofInt 12), .int (Int32.ofInt (g : Int))] S R Q
    refine w_br (P := (Int32.ofInt 12) ≤ (Int32.ofInt (g : Int))) rfl (fun _ => rfl) (fun h7 => ?_) (fun h7 => ?_)
    · exfalso; rw [q_le32, e12, eg] at h7; omega
    · refine w_st rfl (fun _ => rfl) ?_
      refine w_st rfl (fun _ => rfl) ?_
      show w_T L xs (d + 1) m_X12_takesSome 12 [(3, .int (Int32.ofInt (g : Int))), (2, .int (Int32.ofInt ((v_popN g sI.toInt.toNat : Nat) : Int))), (0, .ref 100), (1, .int sI)] [.int (Int32.ofInt (g : Int)), .int sI] S R Q
      refine w_cs rfl (by decide) mt_X12_has (fun _ => rfl) (Nat.le_of_ble_eq_true rfl) (Nat.le_of_ble_eq_true rfl) ?_
      show w_T L xs _ m_X12_has 0 (lv_args 0 [.int sI, .int (Int32.ofInt (g : Int))]) [] S R _
      refine h_has sI _ ?_
      rw [hbit]
      show w_T L xs (d + 1) m_X12_takesSome 15 [(3, .int (Int32.ofInt (g : Int))), (2, .int (Int32.ofInt ((v_popN g sI.toInt.toNat : Nat) : Int))), (0, .ref 100), (1, .int sI)] [.int (Int32.ofInt ((sI.toInt.toNat / 2 ^ g % 2 : Nat) : Int))] S R Q
      refine w_br (P := ¬ (Int32.ofInt ((sI.toInt.toNat / 2 ^ g % 2 : Nat) : Int)) = 0) rfl (fun _ => rfl) (fun h15 => ?_) (fun h15 => ?_)
      · have hz : sI.toInt.toNat / 2 ^ g % 2 = 1 := by
          have : ¬ sI.toInt.toNat / 2 ^ g % 2 = 0 := fun e => h15 (by rw [e]; rfl)
          omega
        refine w_st rfl (fun _ => rfl) ?_
        show w_T L xs (d + 1) m_X12_takesSome 22 [(3, .int (Int32.ofInt (g : Int))), (2, .int (Int32.ofInt ((v_popN g sI.toInt.toNat : Nat) : Int))), (0, .ref 100), (1, .int sI)] [.ref 100] S R Q
        refine w_getr rfl v_tyM rfl ?_
        refine w_st rfl (fun _ => rfl) ?_
        refine w_st rfl (fun _ => rfl) ?_
        show w_T L xs (d + 1) m_X12_takesSome 27 [(3, .int (Int32.ofInt (g : Int))), (2, .int (Int32.ofInt ((v_popN g sI.toInt.toNat : Nat) : Int))), (0, .ref 100), (1, .int sI)] [.int (Int32.ofInt (g : Int)), .int (Int32.ofInt ((v_popN g sI.toInt.toNat : Nat) : Int)), .ref 153] S R Q
        refine w_iast rfl rfl (by rw [en]; omega) (by rw [en]; omega) ?_
        refine w_st rfl (fun _ => rfl) ?_
        refine w_st rfl (fun _ => rfl) ?_
        refine w_st rfl (fun _ => rfl) ?_
        show w_T L xs (d + 1) m_X12_takesSome 4 [(3, .int ((Int32.ofInt (g : Int)) + Int32.ofInt 1)), (2, .int ((Int32.ofInt ((v_popN g sI.toInt.toNat : Nat) : Int)) + Int32.ofInt 1)), (0, .ref 100), (1, .int sI)] [] (v_ur S 152 (upd (S 152) (Int32.ofInt ((v_popN g sI.toInt.toNat : Nat) : Int)).toInt.toNat (Int32.ofInt (g : Int)))) R Q
        have e1 : Int32.ofInt ((v_popN g sI.toInt.toNat : Nat) : Int) + Int32.ofInt 1 = Int32.ofInt ((v_popN (g + 1) sI.toInt.toNat : Nat) : Int) := by rw [w_inc, hps, hz]
        rw [e1, w_inc]
        refine ih (g + 1) _ (by omega) (w_TbR hT (a := 152) rfl (by omega) (by omega)) (fun S' h1 h2 => hq S' h1 (fun a j hj => ?_))
        rw [h2 a j hj]
        exact w_urn (fun e => hj ⟨e.1, by rw [e.2, en]; omega⟩)
      · have hz : sI.toInt.toNat / 2 ^ g % 2 = 0 := by
          have h16 := Decidable.of_not_not h15
          have := congrArg Int32.toInt h16
          rw [w_nat (by omega)] at this
          have z0 : (0 : Int32).toInt = 0 := rfl
          omega
        refine w_st rfl (fun _ => rfl) ?_
        refine w_st rfl (fun _ => rfl) ?_
        refine w_st rfl (fun _ => rfl) ?_
        show w_T L xs (d + 1) m_X12_takesSome 4 [(3, .int ((Int32.ofInt (g : Int)) + Int32.ofInt 1)), (2, .int (Int32.ofInt ((v_popN g sI.toInt.toNat : Nat) : Int))), (0, .ref 100), (1, .int sI)] [] S R Q
        have e1 : v_popN g sI.toInt.toNat = v_popN (g + 1) sI.toInt.toNat := by omega
        rw [w_inc]
        have e2 := ih (g + 1) S (by omega) hT hq
        rw [← e1] at e2
        exact e2
theorem h_X12_takesSome (sI : Int32) (S : v_Sf) (hs : 0 ≤ sI.toInt) (hs2 : sI.toInt < 4096) (hT : v_Tb v_ty S R) (hq : ∀ S', v_Tb v_ty S' R → (∀ a j, ¬ (a = 152 ∧ j ≤ 12) → S' a j = S a j) → Q (some (.int (v_pop sI))) S' R) : w_T L xs (d + 1) m_X12_takesSome 0 (lv_args 0 [.ref 100, .int sI]) [] S R Q := by
  have e0 : v_pop sI = Int32.ofInt ((v_popN 12 sI.toInt.toNat : Nat) : Int) := by
    obtain ⟨e1, l1⟩ := v_nn hs
    have e2 : sI.toInt.toNat = sI.toBitVec.toNat := by omega
    have e3 : v_popN (12 + 20) sI.toBitVec.toNat = v_popN 12 sI.toBitVec.toNat := v_popN_big 20 12 sI.toBitVec.toNat (by omega)
    rw [e2, ← e3]
    rfl
  rw [e0] at hq
  refine w_st rfl (fun _ => rfl) ?_
  refine w_st rfl (fun _ => rfl) ?_
  refine w_st rfl (fun _ => rfl) ?_
  refine w_st rfl (fun _ => rfl) ?_
  show w_T L xs (d + 1) m_X12_takesSome 4 [(3, .int (Int32.ofInt 0)), (2, .int (Int32.ofInt 0)), (0, .ref 100), (1, .int sI)] [] S R Q
  exact h_X12_takesSome1 sI hs 12 0 S rfl hT hq
theorem h_X12_takesPlaces1 (sI : Int32) (hs : 0 ≤ sI.toInt) : ∀ (m g : Nat) (S : v_Sf), g + m = 6 → v_Tb v_ty S R → (∀ S', v_Tb v_ty S' R → (∀ a j, ¬ (a = 153 ∧ j ≤ 6) → S' a j = S a j) → Q (some (.int (Int32.ofInt ((v_popN 6 sI.toInt.toNat : Nat) : Int)))) S' R) → w_T L xs (d + 1) m_X12_takesPlaces 4 [(3, .int (Int32.ofInt (g : Int))), (2, .int (Int32.ofInt ((v_popN g sI.toInt.toNat : Nat) : Int))), (0, .ref 100), (1, .int sI)] [] S R Q := by
  intro m
  induction m with
  | zero =>
    intro g S hg hT hq
    have eg := w_nat (k := g) (by omega)
    have e12 : (Int32.ofInt 6).toInt = 6 := by decide
    refine w_st rfl (fun _ => rfl) ?_
    refine w_st rfl (fun _ => rfl) ?_
    show w_T L xs (d + 1) m_X12_takesPlaces 7 [(3, .int (Int32.ofInt (g : Int))), (2, .int (Int32.ofInt ((v_popN g sI.toInt.toNat : Nat) : Int))), (0, .ref 100), (1, .int sI)] [.int (Int32.ofInt 6), .int (Int32.ofInt (g : Int))] S R Q
    refine w_br (P := (Int32.ofInt 6) ≤ (Int32.ofInt (g : Int))) rfl (fun _ => rfl) (fun h7 => ?_) (fun h7 => ?_)
    · refine w_st rfl (fun _ => rfl) ?_
      show w_T L xs (d + 1) m_X12_takesPlaces 38 [(3, .int (Int32.ofInt (g : Int))), (2, .int (Int32.ofInt ((v_popN g sI.toInt.toNat : Nat) : Int))), (0, .ref 100), (1, .int sI)] [.int (Int32.ofInt ((v_popN g sI.toInt.toNat : Nat) : Int))] S R Q
      refine w_ret rfl rfl ?_
      have e : g = 6 := by omega
      subst e
      exact hq S hT (fun _ _ _ => rfl)
    · exfalso; rw [q_le32, e12, eg] at h7; omega
  | succ m ih =>
    intro g S hg hT hq
    have eg := w_nat (k := g) (by omega)
    have e12 : (Int32.ofInt 6).toInt = 6 := by decide
    have hle := v_popN_f g sI.toInt.toNat
    have en := w_nat (k := v_popN g sI.toInt.toNat) (by omega)
    have hps := v_popN_s g sI.toInt.toNat
    have egn : (Int32.ofInt (g : Int)).toInt.toNat = g := by rw [eg]; omega
    have hbit := h_bit sI (Int32.ofInt (g : Int)) hs (by omega) (by omega)
    rw [egn] at hbit
    refine w_st rfl (fun _ => rfl) ?_
    refine w_st rfl (fun _ => rfl) ?_
    show w_T L xs (d + 1) m_X12_takesPlaces 7 [(3, .int (Int32.ofInt (g : Int))), (2, .int (Int32.ofInt ((v_popN g sI.toInt.toNat : Nat) : Int))), (0, .ref 100), (1, .int sI)] [.int (Int32.ofInt 6), .int (Int32.ofInt (g : Int))] S R Q
    refine w_br (P := (Int32.ofInt 6) ≤ (Int32.ofInt (g : Int))) rfl (fun _ => rfl) (fun h7 => ?_) (fun h7 => ?_)
    · exfalso; rw [q_le32, e12, eg] at h7; omega
    · refine w_st rfl (fun _ => rfl) ?_
      refine w_st rfl (fun _ => rfl) ?_
      show w_T L xs (d + 1) m_X12_takesPlaces 12 [(3, .int (Int32.ofInt (g : Int))), (2, .int (Int32.ofInt ((v_popN g sI.toInt.toNat : Nat) : Int))), (0, .ref 100), (1, .int sI)] [.int (Int32.ofInt (g : Int)), .int sI] S R Q
      refine w_cs rfl (by decide) mt_X12_has (fun _ => rfl) (Nat.le_of_ble_eq_true rfl) (Nat.le_of_ble_eq_true rfl) ?_
      show w_T L xs _ m_X12_has 0 (lv_args 0 [.int sI, .int (Int32.ofInt (g : Int))]) [] S R _
      refine h_has sI _ ?_
      rw [hbit]
      show w_T L xs (d + 1) m_X12_takesPlaces 15 [(3, .int (Int32.ofInt (g : Int))), (2, .int (Int32.ofInt ((v_popN g sI.toInt.toNat : Nat) : Int))), (0, .ref 100), (1, .int sI)] [.int (Int32.ofInt ((sI.toInt.toNat / 2 ^ g % 2 : Nat) : Int))] S R Q
      refine w_br (P := ¬ (Int32.ofInt ((sI.toInt.toNat / 2 ^ g % 2 : Nat) : Int)) = 0) rfl (fun _ => rfl) (fun h15 => ?_) (fun h15 => ?_)
      · have hz : sI.toInt.toNat / 2 ^ g % 2 = 1 := by
          have : ¬ sI.toInt.toNat / 2 ^ g % 2 = 0 := fun e => h15 (by rw [e]; rfl)
          omega
        refine w_st rfl (fun _ => rfl) ?_
        show w_T L xs (d + 1) m_X12_takesPlaces 22 [(3, .int (Int32.ofInt (g : Int))), (2, .int (Int32.ofInt ((v_popN g sI.toInt.toNat : Nat) : Int))), (0, .ref 100), (1, .int sI)] [.ref 100] S R Q
        refine w_getr rfl v_tyM rfl ?_
        refine w_st rfl (fun _ => rfl) ?_
        refine w_st rfl (fun _ => rfl) ?_
        show w_T L xs (d + 1) m_X12_takesPlaces 27 [(3, .int (Int32.ofInt (g : Int))), (2, .int (Int32.ofInt ((v_popN g sI.toInt.toNat : Nat) : Int))), (0, .ref 100), (1, .int sI)] [.int (Int32.ofInt (g : Int)), .int (Int32.ofInt ((v_popN g sI.toInt.toNat : Nat) : Int)), .ref 154] S R Q
        refine w_iast rfl rfl (by rw [en]; omega) (by rw [en]; omega) ?_
        refine w_st rfl (fun _ => rfl) ?_
        refine w_st rfl (fun _ => rfl) ?_
        refine w_st rfl (fun _ => rfl) ?_
        show w_T L xs (d + 1) m_X12_takesPlaces 4 [(3, .int ((Int32.ofInt (g : Int)) + Int32.ofInt 1)), (2, .int ((Int32.ofInt ((v_popN g sI.toInt.toNat : Nat) : Int)) + Int32.ofInt 1)), (0, .ref 100), (1, .int sI)] [] (v_ur S 153 (upd (S 153) (Int32.ofInt ((v_popN g sI.toInt.toNat : Nat) : Int)).toInt.toNat (Int32.ofInt (g : Int)))) R Q
        have e1 : Int32.ofInt ((v_popN g sI.toInt.toNat : Nat) : Int) + Int32.ofInt 1 = Int32.ofInt ((v_popN (g + 1) sI.toInt.toNat : Nat) : Int) := by rw [w_inc, hps, hz]
        rw [e1, w_inc]
        refine ih (g + 1) _ (by omega) (w_TbR hT (a := 153) rfl (by omega) (by omega)) (fun S' h1 h2 => hq S' h1 (fun a j hj => ?_))
        rw [h2 a j hj]
        exact w_urn (fun e => hj ⟨e.1, by rw [e.2, en]; omega⟩)
      · have hz : sI.toInt.toNat / 2 ^ g % 2 = 0 := by
          have h16 := Decidable.of_not_not h15
          have := congrArg Int32.toInt h16
          rw [w_nat (by omega)] at this
          have z0 : (0 : Int32).toInt = 0 := rfl
          omega
        refine w_st rfl (fun _ => rfl) ?_
        refine w_st rfl (fun _ => rfl) ?_
        refine w_st rfl (fun _ => rfl) ?_
        show w_T L xs (d + 1) m_X12_takesPlaces 4 [(3, .int ((Int32.ofInt (g : Int)) + Int32.ofInt 1)), (2, .int (Int32.ofInt ((v_popN g sI.toInt.toNat : Nat) : Int))), (0, .ref 100), (1, .int sI)] [] S R Q
        have e1 : v_popN g sI.toInt.toNat = v_popN (g + 1) sI.toInt.toNat := by omega
        rw [w_inc]
        have e2 := ih (g + 1) S (by omega) hT hq
        rw [← e1] at e2
        exact e2
theorem h_X12_takesPlaces (sI : Int32) (S : v_Sf) (hs : 0 ≤ sI.toInt) (hs2 : sI.toInt < 64) (hT : v_Tb v_ty S R) (hq : ∀ S', v_Tb v_ty S' R → (∀ a j, ¬ (a = 153 ∧ j ≤ 6) → S' a j = S a j) → Q (some (.int (v_pop sI))) S' R) : w_T L xs (d + 1) m_X12_takesPlaces 0 (lv_args 0 [.ref 100, .int sI]) [] S R Q := by
  have e0 : v_pop sI = Int32.ofInt ((v_popN 6 sI.toInt.toNat : Nat) : Int) := by
    obtain ⟨e1, l1⟩ := v_nn hs
    have e2 : sI.toInt.toNat = sI.toBitVec.toNat := by omega
    have e3 : v_popN (6 + 26) sI.toBitVec.toNat = v_popN 6 sI.toBitVec.toNat := v_popN_big 26 6 sI.toBitVec.toNat (by omega)
    rw [e2, ← e3]
    rfl
  rw [e0] at hq
  refine w_st rfl (fun _ => rfl) ?_
  refine w_st rfl (fun _ => rfl) ?_
  refine w_st rfl (fun _ => rfl) ?_
  refine w_st rfl (fun _ => rfl) ?_
  show w_T L xs (d + 1) m_X12_takesPlaces 4 [(3, .int (Int32.ofInt 0)), (2, .int (Int32.ofInt 0)), (0, .ref 100), (1, .int sI)] [] S R Q
  exact h_X12_takesPlaces1 sI hs 6 0 S rfl hT hq
end HT
