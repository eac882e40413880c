theorem z_rules_rel {c b e : Nat} (hc : z_cd c) (hb : z_cd b) (he : z_cd e) (hec : e ≠ c) (heb : e ≠ b) {S T : v_Sf} (h : z_Rel c b S T) (a : Int32) : f_X11_rules b e a S = f_X12_rules a T ∧ (f_X11_rules b e a S ≤ 0 → z_Rel c b (g_X11_rules b e a S) (g_X12_rules a T)) ∧ (¬ f_X11_rules b e a S ≤ 0 → z_Rel c e (g_X11_rules b e a S) (g_X12_rules a T)) := by
  have hcn := z_cdl hc
  have hbn := z_cdl hb
  have hen := z_cdl he
  obtain ⟨⟨nc, hB⟩, hP, hT, hK, hO, h17, h25⟩ := id h
  have m1 : Int32.ofInt (-1) ≤ 0 := by decide
  unfold f_X11_rules g_X11_rules f_X12_rules g_X12_rules
  by_cases r : (1 ≤ a.toInt ∧ a.toInt ≤ 240) ∧ a ≤ T 99 1
  · obtain ⟨n, hn, rfl⟩ : ∃ n, (1 ≤ n ∧ n ≤ 240) ∧ a = z_i n := ⟨a.toInt.toNat, by omega, (z_ofN (by omega)).symm⟩
    have e1 : ¬ z_i n < Int32.ofInt 1 := by
      rw [show Int32.ofInt 1 = z_i 1 from rfl, z_ilt (by omega) (by omega)]
      omega
    have e2 : ¬ Int32.ofInt 240 < z_i n := by
      rw [show Int32.ofInt 240 = z_i 240 from rfl, z_ilt (by omega) (by omega)]
      omega
    have e3 : z_i n ≤ S 45 1 := by
      rw [hT.2.1]
      exact r.2
    have e4 : ¬ z_in (z_i n) 1 240 = 0 := fun m => z_in0.mp m r.1
    simp only [if_neg e1, if_neg e2, if_pos e3, if_neg e4, if_pos r.2, ite_self]
    have fS : ∀ x j, ¬ z_rc e x → ¬ (x = 45 ∧ j = 1) → g_X8_empty (g_X5_readText e (z_i n) (Int32.ofInt 0) S) x j = S x j := fun x j q1 q2 => by
      unfold g_X8_empty
      rw [z_sn q2, z_rd_text (e := e) _ _ S x q1]
    have f45 : g_X8_empty (g_X5_readText e (z_i n) (Int32.ofInt 0) S) 45 1 = 0 := by
      unfold g_X8_empty
      rw [z_ss]
      rfl
    have r45 : ∀ x j, x ≠ 45 → g_X8_empty (g_X5_readText e (z_i n) (Int32.ofInt 0) S) x j = g_X5_readText e (z_i n) (Int32.ofInt 0) S x j := fun x j q => z_sn (fun m => q m.1)
    have rb : S b 7 = g_X8_empty (g_X5_readText e (z_i n) (Int32.ofInt 0) S) b 7 := (fS b 7 (by unfold z_rc; omega) (by omega)).symm
    rcases z_rul_ok he (z_by_T hT) (S := S) (T := T) (n := n) (fun i _ => rfl) (fun i hi => (hT.1 i hi).1.symm) hn.2 e3 h25 with ⟨g1, g2, g3, g4, g5⟩ | ⟨k, k1, k2, k3, k4, k5, k6, k7, k8⟩
    · have g1' : f_X12_takesText (z_i n) (Int32.ofInt 1) T < 0 := by
        rw [g2]
        exact g1
      have le : f_X5_readText e (z_i n) (Int32.ofInt 0) S ≤ 0 := by
        rw [z_leI2]
        have := z_ltI2.mp g1
        omega
      simp only [if_pos g1']
      refine ⟨g2.symm, fun _ => ?_, fun q => absurd le q⟩
      refine z_text_rel hc hb he h fS f45 (fun x j q1 q2 => g3 x j (by omega) (by omega)) g5 g4 ⟨nc, z_LawR_t hB.2.2.2.1 (funext fun j => fS _ j (by unfold z_rc; omega) (by omega)) (funext fun j => fS _ j (by unfold z_rc; omega) (by omega)) (funext fun j => fS _ j (by unfold z_rc; omega) (by omega)) (funext fun j => fS _ j (by unfold z_rc; omega) (by omega)) (funext fun j => fS _ j (by unfold z_rc; omega) (by omega)) (funext fun j => fS _ j (by unfold z_rc; omega) (by omega)) (fun x j q => g3 x j (by omega) (by omega)), ?_⟩ ?_
      · rw [g3 99 16 (by omega) (by omega)]
        exact hB.2.2.2.2
      · rw [← rb, g3 99 17 (by omega) (by omega)]
        exact h17
    · have np := z_pos k1 (by omega)
      rw [k3, k4]
      simp only [if_neg np.1]
      refine ⟨trivial, fun q => absurd q np.2, fun _ => ?_⟩
      refine z_text_rel hc hb he h fS f45 (fun x j q1 q2 => by rw [z_sn (by omega)]; exact k6 x j (by omega) (by omega) (by omega) (by omega)) (by rw [z_sn (by omega)]; exact k8) (by rw [z_sn (by omega)]; exact k7) ⟨nc, z_LawR_t hB.2.2.2.1 (funext fun j => fS _ j (by unfold z_rc; omega) (by omega)) (funext fun j => fS _ j (by unfold z_rc; omega) (by omega)) (funext fun j => fS _ j (by unfold z_rc; omega) (by omega)) (funext fun j => fS _ j (by unfold z_rc; omega) (by omega)) (funext fun j => fS _ j (by unfold z_rc; omega) (by omega)) (funext fun j => fS _ j (by unfold z_rc; omega) (by omega)) (fun x j q => by rw [z_sn (by omega)]; exact k6 x j (by omega) (by omega) (by omega) (by omega)), ?_⟩ ?_
      · rw [z_sn (by omega), k6 99 16 (by omega) (by omega) (by omega) (by omega)]
        exact hB.2.2.2.2
      · rw [z_ss, r45 _ _ (by omega)]
        exact k5
  · have eC : (if a < Int32.ofInt 1 then S else (if Int32.ofInt 240 < a then S else (if a ≤ S 45 1 then g_X8_empty (g_X5_readText e a (Int32.ofInt 0) S) else S))) = S ∧ (if a < Int32.ofInt 1 then Int32.ofInt (-1) else (if Int32.ofInt 240 < a then Int32.ofInt (-1) else (if a ≤ S 45 1 then (if f_X5_readText e a (Int32.ofInt 0) S ≤ 0 then f_X5_readText e a (Int32.ofInt 0) S else f_X5_readText e a (Int32.ofInt 0) S) else Int32.ofInt (-1)))) = Int32.ofInt (-1) := by
      by_cases q1 : a < Int32.ofInt 1
      · simp only [if_pos q1]
        exact ⟨trivial, trivial⟩
      · by_cases q2 : Int32.ofInt 240 < a
        · simp only [if_neg q1, if_pos q2]
          exact ⟨trivial, trivial⟩
        · have q3 : ¬ a ≤ S 45 1 := by
            intro m
            rw [hT.2.1] at m
            rw [z_ltI2, show (Int32.ofInt 1).toInt = 1 from rfl] at q1
            rw [z_ltI2, show (Int32.ofInt 240).toInt = 240 from rfl] at q2
            exact r ⟨⟨by omega, by omega⟩, m⟩
          simp only [if_neg q1, if_neg q2, if_neg q3]
          exact ⟨trivial, trivial⟩
    rw [eC.1, eC.2]
    by_cases q : z_in a 1 240 = 0
    · simp only [if_pos q]
      exact ⟨trivial, fun _ => h, fun m => absurd m1 m⟩
    · have q3 : ¬ a ≤ T 99 1 := by
        intro m
        refine r ⟨?_, m⟩
        exact Classical.byContradiction (fun z => q (z_in0.mpr z))
      simp only [if_neg q, if_neg q3]
      exact ⟨trivial, fun _ => h, fun m => absurd m1 m⟩
