/-! plain calls: wind, home, house, ward, moves, gust -/
theorem z_wind_ok {c b : Nat} (hc : z_cd c) (hb : z_cd b) {S T : v_Sf} (h : z_Rel c b S T) (k q l : Int32) : f_X11_wind k q l S = f_X12_wind k q l T ∧ z_Rel c b (g_X11_wind k q l S) (g_X12_wind k q l T) := by
  unfold f_X11_wind g_X11_wind f_X12_wind g_X12_wind
  by_cases r0 : 0 ≤ k.toInt ∧ k.toInt ≤ 3
  · have a0 : ¬ f_X11_within k (Int32.ofInt 3) = 0 := fun m => z_within.mp m r0
    have b0 : ¬ z_in k 0 3 = 0 := fun m => z_in0.mp m r0
    simp only [if_neg a0, if_neg b0]
    by_cases r1 : 0 ≤ q.toInt ∧ q.toInt ≤ 7
    · have a1 : ¬ f_X11_within q (Int32.ofInt 7) = 0 := fun m => z_within.mp m r1
      have b1 : ¬ z_in q 0 7 = 0 := fun m => z_in0.mp m r1
      simp only [if_neg a1, if_neg b1]
      by_cases r2 : 0 ≤ l.toInt ∧ l.toInt ≤ 255
      · have a2 : ¬ f_X11_within l (Int32.ofInt 255) = 0 := fun m => z_within.mp m r2
        have b2 : ¬ z_in l 0 255 = 0 := fun m => z_in0.mp m r2
        simp only [if_pos a2, if_pos b2]
        obtain ⟨i, hi, rfl⟩ : ∃ i, i < 4 ∧ k = z_i i := ⟨k.toInt.toNat, by omega, (z_ofN r0.1).symm⟩
        have ei : (z_i i).toInt.toNat = i := z_iin (by omega)
        rw [ei, z_nar1]
        obtain ⟨o1, o2, o3, o4, o5, o6, o7, o8⟩ := id h.2.2.2.2.1
        refine ⟨trivial, z_Rel_o hc hb h ⟨?_, ?_, ?_, ?_, ?_, ?_, ?_, ?_⟩ (fun a j m => ?_) (fun a j m => ?_)⟩
        · rw [z_sn (by omega), z_sn (by omega), z_ss, z_sr (by decide), z_sr (by decide)]
          exact z_told_or (n := 4) (by decide) o1 hi z_n1n
        · intro j hj
          have q := o2 j hj
          by_cases e : j = i
          · rw [e, z_sn (by omega), z_ss, z_sn (by omega), z_ss]
            exact ⟨rfl, r1⟩
          · rw [z_sn (by omega), z_sn (by omega), z_sn (by omega), z_sn (by omega), z_sn (by omega), z_sn (by omega)]
            exact q
        · intro j hj
          have q := o3 j hj
          by_cases e : j = i
          · rw [e, z_ss, z_ss]
            exact ⟨rfl, r2⟩
          · rw [z_sn (by omega), z_sn (by omega), z_sn (by omega), z_sn (by omega), z_sn (by omega), z_sn (by omega)]
            exact q
        · rw [z_sn (by omega), z_sn (by omega), z_sn (by omega), z_sr (by decide), z_sr (by decide), z_sr (by decide)]
          exact o4
        · rw [z_sr (by decide), z_sr (by decide), z_sr (by decide), z_sr (by decide), z_sr (by decide), z_sr (by decide)]
          exact o5
        · rw [z_sn (by omega), z_sn (by omega), z_sn (by omega), z_sr (by decide), z_sr (by decide), z_sr (by decide)]
          exact o6
        · rw [z_sr (by decide), z_sr (by decide), z_sr (by decide), z_sr (by decide), z_sr (by decide), z_sr (by decide)]
          exact o7
        · rw [z_sr (by decide), z_sr (by decide), z_sr (by decide), z_sr (by decide), z_sr (by decide), z_sr (by decide)]
          exact o8
        · rw [z_sn (by omega), z_sn (by omega), z_sn (by omega)]
        · rw [z_sn (by omega), z_sn (by omega), z_sn (by omega)]
      · have a2 : ¬ ¬ f_X11_within l (Int32.ofInt 255) = 0 := fun m => m (z_within.mpr r2)
        have b2 : ¬ ¬ z_in l 0 255 = 0 := fun m => m (z_in0.mpr r2)
        simp only [if_neg a2, if_neg b2]
        exact ⟨trivial, h⟩
    · have a1 : f_X11_within q (Int32.ofInt 7) = 0 := z_within.mpr r1
      have b1 : z_in q 0 7 = 0 := z_in0.mpr r1
      simp only [if_pos a1, if_pos b1]
      exact ⟨trivial, h⟩
  · have a0 : f_X11_within k (Int32.ofInt 3) = 0 := z_within.mpr r0
    have b0 : z_in k 0 3 = 0 := z_in0.mpr r0
    simp only [if_pos a0, if_pos b0]
    exact ⟨trivial, h⟩
theorem z_home_ok {c b : Nat} (hc : z_cd c) (hb : z_cd b) {S T : v_Sf} (h : z_Rel c b S T) (k u : Int32) : f_X11_home k u S = f_X12_home k u T ∧ z_Rel c b (g_X11_home k u S) (g_X12_home k u T) := by
  unfold f_X11_home g_X11_home f_X12_home g_X12_home
  unfold f_X12_areHabits
  by_cases r0 : 0 ≤ k.toInt ∧ k.toInt ≤ 9
  · have a0 : ¬ f_X11_within k (Int32.ofInt 9) = 0 := fun m => z_within.mp m r0
    have b0 : ¬ z_in k 0 9 = 0 := fun m => z_in0.mp m r0
    simp only [if_neg a0, if_neg b0]
    by_cases r1 : 0 ≤ u.toInt ∧ u.toInt ≤ 1023
    · have a1 : ¬ f_X11_within u (Int32.ofInt 1023) = 0 := fun m => z_within.mp m r1
      have b1 : ¬ z_in u 0 1023 = 0 := fun m => z_in0.mp m r1
      simp only [if_pos a1, if_pos b1]
      obtain ⟨i, hi, rfl⟩ : ∃ i, i < 10 ∧ k = z_i i := ⟨k.toInt.toNat, by omega, (z_ofN r0.1).symm⟩
      have ei : (z_i i).toInt.toNat = i := z_iin (by omega)
      rw [ei, z_nar1]
      obtain ⟨o1, o2, o3, o4, o5, o6, o7, o8⟩ := id h.2.2.2.2.1
      refine ⟨trivial, z_Rel_o hc hb h ⟨?_, ?_, ?_, ?_, ?_, ?_, ?_, ?_⟩ (fun a j m => ?_) (fun a j m => ?_)⟩
      · rw [z_sn (by omega), z_sn (by omega), z_sr (by decide), z_sr (by decide)]
        exact o1
      · rw [z_sr (by decide), z_sr (by decide), z_sr (by decide), z_sr (by decide)]
        exact o2
      · rw [z_sr (by decide), z_sr (by decide), z_sr (by decide), z_sr (by decide)]
        exact o3
      · rw [z_sn (by omega), z_ss, z_sr (by decide)]
        exact z_told_or (n := 10) (by decide) o4 hi z_n1n
      · intro j hj
        have q := o5 j hj
        by_cases e : j = i
        · rw [e, z_ss, z_ss]
          exact ⟨rfl, r1⟩
        · rw [z_sn (by omega), z_sn (by omega), z_sn (by omega), z_sn (by omega)]
          exact q
      · rw [z_sn (by omega), z_sn (by omega), z_sr (by decide), z_sr (by decide)]
        exact o6
      · rw [z_sr (by decide), z_sr (by decide), z_sr (by decide), z_sr (by decide)]
        exact o7
      · rw [z_sr (by decide), z_sr (by decide), z_sr (by decide), z_sr (by decide)]
        exact o8
      · rw [z_sn (by omega), z_sn (by omega)]
      · rw [z_sn (by omega), z_sn (by omega)]
    · have a1 : ¬ ¬ f_X11_within u (Int32.ofInt 1023) = 0 := fun m => m (z_within.mpr r1)
      have b1 : ¬ ¬ z_in u 0 1023 = 0 := fun m => m (z_in0.mpr r1)
      simp only [if_neg a1, if_neg b1]
      exact ⟨trivial, h⟩
  · have a0 : f_X11_within k (Int32.ofInt 9) = 0 := z_within.mpr r0
    have b0 : z_in k 0 9 = 0 := z_in0.mpr r0
    simp only [if_pos a0, if_pos b0]
    exact ⟨trivial, h⟩
theorem z_house_ok {c b : Nat} (hc : z_cd c) (hb : z_cd b) {S T : v_Sf} (h : z_Rel c b S T) (k r u : Int32) : f_X11_house k r u S = f_X12_house k r u T ∧ z_Rel c b (g_X11_house k r u S) (g_X12_house k r u T) := by
  unfold f_X11_house g_X11_house f_X12_house g_X12_house
  unfold f_X12_areHabits
  by_cases r0 : 0 ≤ k.toInt ∧ k.toInt ≤ 4
  · have a0 : ¬ f_X11_within k (Int32.ofInt 4) = 0 := fun m => z_within.mp m r0
    have b0 : ¬ z_in k 0 4 = 0 := fun m => z_in0.mp m r0
    simp only [if_neg a0, if_neg b0]
    by_cases r1 : 0 ≤ r.toInt ∧ r.toInt ≤ 99
    · have a1 : ¬ f_X11_within r (Int32.ofInt 99) = 0 := fun m => z_within.mp m r1
      have b1 : ¬ z_in r 0 99 = 0 := fun m => z_in0.mp m r1
      simp only [if_neg a1, if_neg b1]
      by_cases r2 : 0 ≤ u.toInt ∧ u.toInt ≤ 1023
      · have a2 : ¬ f_X11_within u (Int32.ofInt 1023) = 0 := fun m => z_within.mp m r2
        have b2 : ¬ z_in u 0 1023 = 0 := fun m => z_in0.mp m r2
        simp only [if_pos a2, if_pos b2]
        obtain ⟨i, hi, rfl⟩ : ∃ i, i < 5 ∧ k = z_i i := ⟨k.toInt.toNat, by omega, (z_ofN r0.1).symm⟩
        have ei : (z_i i).toInt.toNat = i := z_iin (by omega)
        rw [ei, z_nar1]
        obtain ⟨o1, o2, o3, o4, o5, o6, o7, o8⟩ := id h.2.2.2.2.1
        refine ⟨trivial, z_Rel_o hc hb h ⟨?_, ?_, ?_, ?_, ?_, ?_, ?_, ?_⟩ (fun a j m => ?_) (fun a j m => ?_)⟩
        · rw [z_sn (by omega), z_sn (by omega), z_sn (by omega), z_sr (by decide), z_sr (by decide), z_sr (by decide)]
          exact o1
        · rw [z_sr (by decide), z_sr (by decide), z_sr (by decide), z_sr (by decide), z_sr (by decide), z_sr (by decide)]
          exact o2
        · rw [z_sr (by decide), z_sr (by decide), z_sr (by decide), z_sr (by decide), z_sr (by decide), z_sr (by decide)]
          exact o3
        · rw [z_sn (by omega), z_sn (by omega), z_sn (by omega), z_sr (by decide), z_sr (by decide), z_sr (by decide)]
          exact o4
        · rw [z_sr (by decide), z_sr (by decide), z_sr (by decide), z_sr (by decide), z_sr (by decide), z_sr (by decide)]
          exact o5
        · rw [z_sn (by omega), z_sn (by omega), z_ss, z_sr (by decide), z_sr (by decide)]
          exact z_told_or (n := 5) (by decide) o6 hi z_n1n
        · intro j hj
          have q := o7 j hj
          by_cases e : j = i
          · rw [e, z_sn (by omega), z_ss, z_sn (by omega), z_ss]
            exact ⟨rfl, r1⟩
          · rw [z_sn (by omega), z_sn (by omega), z_sn (by omega), z_sn (by omega), z_sn (by omega), z_sn (by omega)]
            exact q
        · intro j hj
          have q := o8 j hj
          by_cases e : j = i
          · rw [e, z_ss, z_ss]
            exact ⟨rfl, r2⟩
          · rw [z_sn (by omega), z_sn (by omega), z_sn (by omega), z_sn (by omega), z_sn (by omega), z_sn (by omega)]
            exact q
        · rw [z_sn (by omega), z_sn (by omega), z_sn (by omega)]
        · rw [z_sn (by omega), z_sn (by omega), z_sn (by omega)]
      · have a2 : ¬ ¬ f_X11_within u (Int32.ofInt 1023) = 0 := fun m => m (z_within.mpr r2)
        have b2 : ¬ ¬ z_in u 0 1023 = 0 := fun m => m (z_in0.mpr r2)
        simp only [if_neg a2, if_neg b2]
        exact ⟨trivial, h⟩
    · have a1 : f_X11_within r (Int32.ofInt 99) = 0 := z_within.mpr r1
      have b1 : z_in r 0 99 = 0 := z_in0.mpr r1
      simp only [if_pos a1, if_pos b1]
      exact ⟨trivial, h⟩
  · have a0 : f_X11_within k (Int32.ofInt 4) = 0 := z_within.mpr r0
    have b0 : z_in k 0 4 = 0 := z_in0.mpr r0
    simp only [if_pos a0, if_pos b0]
    exact ⟨trivial, h⟩
theorem z_moves_ok {c b : Nat} (hc : z_cd c) (hb : z_cd b) {S T : v_Sf} (h : z_Rel c b S T) (g w : Int32) : f_X11_moves g w S = f_X12_moves g w T ∧ z_Rel c b (g_X11_moves g w S) (g_X12_moves g w T) := by
  have hcn := z_cdl hc
  have hbn := z_cdl hb
  obtain ⟨⟨nc, hB⟩, hP, hT, _⟩ := id h
  have et := z_told_eq hB.1 g
  unfold f_X11_moves g_X11_moves f_X12_moves g_X12_moves f_X12_isWard
  rw [et]
  by_cases t : f_X12_isTold g T = 0
  · simp only [if_pos t]
    refine ⟨by split <;> rfl, ?_⟩
    split <;> exact h
  · simp only [if_neg t]
    have hg : 0 ≤ g.toInt ∧ g.toInt ≤ 11 := by
      refine Classical.byContradiction (fun m => t ?_)
      unfold f_X12_isTold
      rw [if_pos (z_in0.mpr m)]
      rfl
    by_cases r : 0 ≤ w.toInt ∧ w.toInt ≤ 5
    · have r' : 0 ≤ w.toInt ∧ w.toInt < ((6 : Nat) : Int) := by omega
      have n2 : ¬ z_in w 0 5 = 0 := fun m => z_in0.mp m r
      have wd := hB.1.2.2.2.2.1 g.toInt.toNat (by omega)
      have e5 : S 5 g.toInt.toNat = T 120 g.toInt.toNat := wd.1
      have my := z_many0 hB.1.1 hB.1.2.2.2.2.1 w
      have rm := (hB.2.1 w.toInt.toNat (by omega)).2.2.1
      simp only [if_pos r', if_neg n2, e5, my.2, rm]
      by_cases q : T 120 g.toInt.toNat = w
      · simp only [if_neg (not_not_intro q), if_pos q]
        exact ⟨trivial, h⟩
      · simp only [if_pos q, if_neg q]
        by_cases q2 : f_X12_manyIn w T < T 123 w.toInt.toNat
        · simp only [if_pos q2]
          obtain ⟨a1, a2, a3, a4, a5, a6, a7, a8, a9, a10, a12, a13, a14⟩ := id hB.1
          have hS : z_St 1 (z_s S 5 g.toInt.toNat w) (z_s T 120 g.toInt.toNat w) := by
            refine ⟨?_, ?_, ?_, ?_, z_co_u a5 r, ?_, ?_, ?_, ?_, ?_, ?_, ?_, ?_⟩
            · rw [z_sn (by omega), z_sr (by decide)]
              exact a1
            · rw [z_sr (by decide), z_sr (by decide)]
              exact a2
            · rw [z_sr (show (1 + 2 : Nat) ≠ 5 by decide), z_sr (show (116 : Nat) ≠ 120 by decide), z_sr (show (118 : Nat) ≠ 120 by decide)]
              exact a3
            · rw [z_sr (by decide), z_sr (by decide)]
              exact a4
            · rw [z_sr (by decide), z_sr (by decide)]
              exact a6
            · rw [z_sr (by decide), z_sr (by decide)]
              exact a7
            · rw [z_sn (by omega), z_sr (by decide)]
              exact a8
            · rw [z_sr (by decide), z_sr (by decide)]
              exact a9
            · rw [z_sr (by decide), z_sr (by decide)]
              exact a10
            · rw [z_sn (by omega), z_sn (by omega)]
              exact a12
            · rw [z_sn (by omega), z_sn (by omega)]
              exact a13
            · rw [z_sn (by omega), z_sn (by omega)]
              exact a14
          exact ⟨trivial, z_Rel_f h ⟨nc, z_Bs_st hc hB hS (fun a m => z_sr (by omega)) (fun a j m => z_sn (by omega))⟩ (z_PX_f hP (z_sr (by decide)) (z_sn (by omega)) (z_sr (by decide)) (z_sr (by decide)) (z_sn (by omega))) (z_Tp_f hT (z_sr (by decide)) (z_sn (by omega)) (z_sr (by decide)) (z_sn (by omega))) (fun a j m => z_sn (by omega)) (fun a j m => z_sn (by omega))⟩
        · simp only [if_neg q2]
          exact ⟨trivial, h⟩
    · have r' : ¬ (0 ≤ w.toInt ∧ w.toInt < ((6 : Nat) : Int)) := by omega
      have n2 : z_in w 0 5 = 0 := z_in0.mpr r
      simp only [if_neg r', if_pos n2]
      exact ⟨trivial, h⟩
