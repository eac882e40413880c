/-! plain calls: gust, habit, nurse, ward, moves, wind, home, house -/
theorem z_nar1 : u_nar 2 (Int32.ofInt 1) = Int32.ofInt 1 := by decide
theorem z_n1n : ¬ Int32.ofInt 1 = 0 := by decide
theorem z_andR {h m : Int32} (hh : 0 ≤ h.toInt ∧ h.toInt ≤ 1023) : 0 ≤ (h &&& m).toInt ∧ (h &&& m).toInt ≤ 1023 := by
  have hb := z_toN hh.1
  have le : (h &&& m).toBitVec.toNat ≤ h.toBitVec.toNat := by
    rw [Int32.toBitVec_and, BitVec.toNat_and]
    exact Nat.and_le_left
  have hI := z_ofT (x := h &&& m) (by omega)
  omega
theorem z_habit_ok {c b : Nat} (hc : z_cd c) (hb : z_cd b) {S T : v_Sf} (h : z_Rel c b S T) (g q a : Int32) : f_X11_habit g q a S = f_X12_habit g q a T ∧ z_Rel c b (g_X11_habit g q a S) (g_X12_habit g q a T) := by
  have hcn := z_cdl hc
  have hbn := z_cdl hb
  obtain ⟨⟨nc, hB⟩, hP, hT, _⟩ := id h
  have et := z_told_eq hB.1 g
  have key : ∀ k v, 0 ≤ v.toInt ∧ v.toInt ≤ 1023 → z_Rel c b (z_s S 7 k v) (z_s T 122 k v) := fun k v hv => z_Rel_f h ⟨nc, z_Bs_st hc hB (z_St_hab (Or.inl rfl) hB.1 k hv) (fun a m => z_sr (by omega)) (fun a j m => z_sn (by omega))⟩ (z_PX_f hP (z_sr (by decide)) (z_sn (by omega)) (z_sr (by decide)) (z_sr (by decide)) (z_sn (by omega))) (z_Tp_f hT (z_sr (by decide)) (z_sn (by omega)) (z_sr (by decide)) (z_sn (by omega))) (fun a j m => z_sn (by omega)) (fun a j m => z_sn (by omega))
  unfold f_X11_habit g_X11_habit f_X12_habit g_X12_habit
  rw [et]
  by_cases t : f_X12_isTold g T = 0
  · simp only [if_pos t]
    exact ⟨trivial, h⟩
  · simp only [if_neg t]
    have hg : 0 ≤ g.toInt ∧ g.toInt ≤ 11 := by
      refine Classical.byContradiction (fun m => t ?_)
      unfold f_X12_isTold
      rw [if_pos (z_in0.mpr m)]
      rfl
    have hb2 := hB.1.2.2.2.2.2.2.1 g.toInt.toNat (by omega)
    have e7 : S 7 g.toInt.toNat = T 122 g.toInt.toNat := hb2.1
    by_cases r : 0 ≤ q.toInt ∧ q.toInt ≤ 9
    · have n1 : ¬ f_X11_within q (Int32.ofInt 9) = 0 := fun m => z_within.mp m r
      have n2 : ¬ z_in q 0 9 = 0 := fun m => z_in0.mp m r
      simp only [if_pos n1, if_pos n2]
      refine ⟨trivial, ?_⟩
      rw [e7]
      by_cases a0 : a = 0
      · simp only [if_pos a0]
        exact key _ _ (z_andR hb2.2)
      · simp only [if_neg a0]
        exact key _ _ (z_orR hb2.2 r)
    · have n1 : ¬ ¬ f_X11_within q (Int32.ofInt 9) = 0 := fun m => m (z_within.mpr r)
      have n2 : ¬ ¬ z_in q 0 9 = 0 := fun m => m (z_in0.mpr r)
      simp only [if_neg n1, if_neg n2]
      exact ⟨trivial, h⟩
theorem z_nurse_ok {c b : Nat} (hc : z_cd c) (hb : z_cd b) {S T : v_Sf} (h : z_Rel c b S T) (k a : Int32) : f_X11_nurse k a S = f_X12_nurse k a T ∧ z_Rel c b (g_X11_nurse k a S) (g_X12_nurse k a T) := by
  have hcn := z_cdl hc
  have hbn := z_cdl hb
  obtain ⟨⟨nc, hB⟩, hP, hT, _⟩ := id h
  unfold f_X11_nurse g_X11_nurse f_X12_nurse g_X12_nurse
  by_cases r1 : 0 ≤ k.toInt ∧ k.toInt ≤ 4
  · have n1 : ¬ f_X11_within k (Int32.ofInt 4) = 0 := fun m => z_within.mp m r1
    have n2 : ¬ z_in k 0 4 = 0 := fun m => z_in0.mp m r1
    simp only [if_neg n1, if_neg n2]
    by_cases r2 : 0 ≤ a.toInt ∧ a.toInt ≤ 9
    · have n3 : ¬ f_X11_within a (Int32.ofInt 9) = 0 := fun m => z_within.mp m r2
      have n4 : ¬ z_in a 0 9 = 0 := fun m => z_in0.mp m r2
      simp only [if_pos n3, if_pos n4]
      obtain ⟨i, hi, rfl⟩ : ∃ i, i < 5 ∧ k = z_i i := ⟨k.toInt.toNat, by omega, (z_ofN r1.1).symm⟩
      have ei : (z_i i).toInt.toNat = i := z_iin (by omega)
      rw [ei, z_nar1]
      obtain ⟨a1, a2, a3, a4, a5, a6, a7, a8, a9, a10, a12, a13, a14⟩ := id hB.1
      have t5 := z_told_or (n := 5) (by decide) a8 hi z_n1n
      have hS : z_St 1 (z_s (z_s (z_s S 1 7 ((S 1 7) ||| ((Int32.ofInt 1) <<< (z_i i &&& 31)))) 8 i a) 9 i (Int32.ofInt 0)) (z_s (z_s (z_s T 129 i (Int32.ofInt 1)) 130 i a) 131 i (Int32.ofInt 0)) := by
        refine ⟨?_, ?_, ?_, ?_, ?_, ?_, ?_, ?_, ?_, ?_, ?_, ?_, ?_⟩
        · rw [z_sn (by omega), z_sn (by omega), z_sn (by omega), z_sr (by decide), z_sr (by decide), z_sr (by decide)]
          exact a1
        · rw [z_sr (by decide), z_sr (by decide), z_sr (by decide), z_sr (by decide), z_sr (by decide), z_sr (by decide)]
          exact a2
        · rw [z_sr (show (1 + 2 : Nat) ≠ 9 by decide), z_sr (show (1 + 2 : Nat) ≠ 8 by decide), z_sr (show (1 + 2 : Nat) ≠ 1 by decide), z_sr (show (116 : Nat) ≠ 131 by decide), z_sr (show (116 : Nat) ≠ 130 by decide), z_sr (show (116 : Nat) ≠ 129 by decide), z_sr (show (118 : Nat) ≠ 131 by decide), z_sr (show (118 : Nat) ≠ 130 by decide), z_sr (show (118 : Nat) ≠ 129 by decide)]
          exact a3
        · rw [z_sr (by decide), z_sr (by decide), z_sr (by decide), z_sr (by decide), z_sr (by decide), z_sr (by decide)]
          exact a4
        · rw [z_sr (by decide), z_sr (by decide), z_sr (by decide), z_sr (by decide), z_sr (by decide), z_sr (by decide)]
          exact a5
        · rw [z_sr (by decide), z_sr (by decide), z_sr (by decide), z_sr (by decide), z_sr (by decide), z_sr (by decide)]
          exact a6
        · rw [z_sr (by decide), z_sr (by decide), z_sr (by decide), z_sr (by decide), z_sr (by decide), z_sr (by decide)]
          exact a7
        · rw [z_sn (by omega), z_sn (by omega), z_ss, z_sr (by decide), z_sr (by decide)]
          exact t5
        · intro j hj
          have q := a9 j hj
          rw [z_sn (by omega), show (1 + 7 : Nat) = 8 from rfl, z_sn (a := 131) (by omega)]
          by_cases e : j = i
          · rw [e, z_ss, z_ss]
            exact ⟨rfl, r2⟩
          · rw [z_sn (by omega), z_sn (by omega), z_sn (by omega), z_sn (by omega)]
            exact q
        · intro j hj
          have q := a10 j hj
          rw [show (1 + 8 : Nat) = 9 from rfl]
          by_cases e : j = i
          · rw [e, z_ss, z_ss]
            exact ⟨rfl, by decide, by decide⟩
          · rw [z_sn (by omega), z_sn (by omega), z_sn (by omega), z_sn (by omega), z_sn (by omega), z_sn (by omega)]
            exact q
        · rw [z_sn (by omega), z_sn (by omega), z_sn (by omega), z_sr (by decide), z_sr (by decide), z_sr (by decide)]
          exact a12
        · rw [z_sn (by omega), z_sn (by omega), z_sn (by omega), z_sr (by decide), z_sr (by decide), z_sr (by decide)]
          exact a13
        · rw [z_sn (by omega), z_sn (by omega), z_sn (by omega), z_sr (by decide), z_sr (by decide), z_sr (by decide)]
          exact a14
      refine ⟨trivial, z_Rel_f h ⟨nc, z_Bs_st hc hB hS (fun a m => ?_) (fun a j m => ?_)⟩ (z_PX_f hP ?_ ?_ ?_ ?_ ?_) (z_Tp_f hT ?_ ?_ ?_ ?_) (fun a j m => ?_) (fun a j m => ?_)⟩
      · rw [z_sr (by omega), z_sr (by omega), z_sr (by omega)]
      · rw [z_sn (by omega), z_sn (by omega), z_sn (by omega)]
      · rw [z_sr (by decide), z_sr (by decide), z_sr (by decide)]
      · rw [z_sn (by omega), z_sn (by omega), z_sn (by omega)]
      · rw [z_sr (by decide), z_sr (by decide), z_sr (by decide)]
      · rw [z_sr (by decide), z_sr (by decide), z_sr (by decide)]
      · rw [z_sn (by omega), z_sn (by omega), z_sn (by omega)]
      · rw [z_sr (by decide), z_sr (by decide), z_sr (by decide)]
      · rw [z_sn (by omega), z_sn (by omega), z_sn (by omega)]
      · rw [z_sr (by decide), z_sr (by decide), z_sr (by decide)]
      · rw [z_sn (by omega), z_sn (by omega), z_sn (by omega)]
      · rw [z_sn (by omega), z_sn (by omega), z_sn (by omega)]
      · rw [z_sn (by omega), z_sn (by omega), z_sn (by omega)]
    · have n3 : ¬ ¬ f_X11_within a (Int32.ofInt 9) = 0 := fun m => m (z_within.mpr r2)
      have n4 : ¬ ¬ z_in a 0 9 = 0 := fun m => m (z_in0.mpr r2)
      simp only [if_neg n3, if_neg n4]
      exact ⟨trivial, h⟩
  · have n1 : f_X11_within k (Int32.ofInt 4) = 0 := z_within.mpr r1
    have n2 : z_in k 0 4 = 0 := z_in0.mpr r1
    simp only [if_pos n1, if_pos n2]
    exact ⟨trivial, h⟩
/-- winds, homes, houses -/
theorem z_Rel_o {c b : Nat} (hc : z_cd c) (hb : z_cd b) {S T S' T' : v_Sf} (h : z_Rel c b S T) (hO : z_Ot S' T') (f : ∀ a j, ¬ (a = 86 ∨ a = 87 ∨ a = 88 ∨ a = 0 ∧ j = 13 ∨ a = 31 ∨ a = 94 ∨ a = 95 ∨ a = 96) → S' a j = S a j) (g : ∀ a j, ¬ (156 ≤ a ∧ a ≤ 164) → T' a j = T a j) : z_Rel c b S' T' := by
  have hcn := z_cdl hc
  have hbn := z_cdl hb
  obtain ⟨⟨nc, hB⟩, hP, hT, ⟨k1, k2⟩, h5, h6, h7⟩ := h
  refine ⟨⟨nc, z_Bs_f hB (fun a q => funext fun j => f a j (by omega)) (fun j q => f 1 j (by omega)) (fun a j q => g a j (by omega))⟩, z_PX_f hP (funext fun j => f _ j (by omega)) (f _ _ (by omega)) (funext fun j => g _ _ (by omega)) (funext fun j => g _ _ (by omega)) (g _ _ (by omega)), z_Tp_f hT (funext fun j => f _ j (by omega)) (f _ _ (by omega)) (funext fun j => g _ _ (by omega)) (g _ _ (by omega)), ⟨?_, fun q => ?_⟩, hO, ?_, ?_⟩
  · rw [f 0 14 (by omega), g 99 92 (by omega)]
    exact k1
  · rw [g 99 92 (by omega)] at q
    exact z_Ks_f (k2 q) (fun a j q => f a j (by omega)) (fun a j q => g a j (by omega))
  · rw [f b 7 (by omega), g 99 17 (by omega)]
    exact h6
  · rw [g 99 25 (by omega)]
    exact h7
