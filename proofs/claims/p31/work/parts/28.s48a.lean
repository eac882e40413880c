/-! quarrel, count, added: the answers -/
theorem z_angryB {c s nc : Nat} (hc : z_cd c) (hs : z_st s) {S T : v_Sf} (h : z_Bs c s nc S T) {g j : Nat} (hg : g < 12) (hj : j < 12) (ht : ¬ T 116 g = 0) (hu : ¬ T 116 j = 0) : f_X3_anyHolds c (Int32.ofInt 120) (g_X3_lookAtTwo s (z_i g) (z_i j) S) = f_X12_isAngry (z_i g) (z_i j) T ∧ z_Bs c s nc (g_X3_anyHolds c (Int32.ofInt 120) (g_X3_lookAtTwo s (z_i g) (z_i j) S)) (g_X12_isAngry (z_i g) (z_i j) T) ∧ (f_X12_isAngry (z_i g) (z_i j) T = Int32.ofInt 0 ∨ f_X12_isAngry (z_i g) (z_i j) T = Int32.ofInt 1) ∧ (∀ a, a ≠ 51 → a ≠ c + 3 → g_X3_anyHolds c (Int32.ofInt 120) (g_X3_lookAtTwo s (z_i g) (z_i j) S) a = S a) ∧ ∀ a i, ¬ (a = 99 ∧ 27 ≤ i ∧ i ≤ 40) → a ≠ 114 → a ≠ 115 → g_X12_isAngry (z_i g) (z_i j) T a i = T a i := by
  have hsn := z_stn hs
  have hcl := z_cdl hc
  have ej : (z_i j).toInt.toNat = j := z_iin (by omega)
  have lk := z_lookG hs h.1 h.2.1 hg ht
  have st := h.1.2.1 j hj
  have qr := h.1.2.2.1 j hj hu
  have E1 : g_X3_lookAtTwo s (z_i g) (z_i j) S = z_s (z_s (g_X3_lookAtGust s (z_i g) S) 51 6 (T 117 j)) 51 7 (S (s + 2) j) := by
    have hh : ¬ f_X7_hasGust s (z_i j) (g_X3_lookAtGust s (z_i g) S) = 0 := by
      rw [z_hasG _ hj, lk.1 s (by omega)]
      exact not_not_intro ((h.1.1.2 j hj).mpr hu)
    unfold g_X3_lookAtTwo
    rw [if_neg hh, ej, lk.1 (s + 1) (by omega), lk.1 (s + 2) (by omega), st.1]
  have E2 : f_X12_isAngry (z_i g) (z_i j) T = f_X12_says (Int32.ofInt 120) (z_s (z_s (g_X12_gustStands (z_i g) T) 99 33 (T 117 j)) 99 34 (S (s + 2) j)) ∧ g_X12_isAngry (z_i g) (z_i j) T = g_X12_says (Int32.ofInt 120) (z_s (z_s (g_X12_gustStands (z_i g) T) 99 33 (T 117 j)) 99 34 (S (s + 2) j)) := by
    unfold f_X12_isAngry g_X12_isAngry
    rw [ej, lk.2.1 118 j (by omega), lk.2.1 117 j (by omega)]
    rcases qr with ⟨q1, q2⟩ | ⟨q1, q2, q3⟩
    · rw [if_neg (not_not_intro q2), if_neg (not_not_intro q2), q1]
      exact ⟨rfl, rfl⟩
    · have n : ¬ T 118 j = Int32.ofInt (-1) := by
        intro e
        rw [e] at q2
        exact absurd q2 (by decide)
      rw [if_pos n, if_pos n, q1]
      exact ⟨rfl, rfl⟩
  have f1 : ∀ a, a ≠ 51 → z_s (z_s (g_X3_lookAtGust s (z_i g) S) 51 6 (T 117 j)) 51 7 (S (s + 2) j) a = S a := fun a q => (z_sr q).trans ((z_sr q).trans (lk.1 a q))
  have f2 : ∀ a i, ¬ (a = 99 ∧ 27 ≤ i ∧ i ≤ 40) → z_s (z_s (g_X12_gustStands (z_i g) T) 99 33 (T 117 j)) 99 34 (S (s + 2) j) a i = T a i := fun a i q => (z_sn (by omega)).trans ((z_sn (by omega)).trans (lk.2.1 a i q))
  have hv : z_vw (fun a => f_X1_valueAt a (z_s (z_s (g_X3_lookAtGust s (z_i g) S) 51 6 (T 117 j)) 51 7 (S (s + 2) j))) (fun a => f_X12_valueOf a (z_s (z_s (g_X12_gustStands (z_i g) T) 99 33 (T 117 j)) 99 34 (S (s + 2) j))) := by
    refine z_vw_mk (fun i hi => ?_) ?_
    · by_cases q : i = 7
      · rw [q, z_ss, z_ss]
      · by_cases q2 : i = 6
        · rw [q2, z_sn (by omega), z_ss, z_sn (by omega), z_ss]
        · rw [z_sn (by omega), z_sn (by omega), z_sn (by omega), z_sn (by omega)]
          exact lk.2.2.1 i hi
    · rw [z_sn (by omega), z_sn (by omega), z_sn (by omega), z_sn (by omega), lk.2.2.2.1, lk.2.1 99 60 (by omega)]
  have h1 : z_Bs c s nc (z_s (z_s (g_X3_lookAtGust s (z_i g) S) 51 6 (T 117 j)) 51 7 (S (s + 2) j)) (z_s (z_s (g_X12_gustStands (z_i g) T) 99 33 (T 117 j)) 99 34 (S (s + 2) j)) := z_Bs_f h (fun a q => f1 a (by omega)) (fun j _ => by rw [f1 s (by omega)]) (fun a i q => f2 a i (by omega))
  have am := z_holds hc (L := Int32.ofInt 120) h1.2.2.2.1 h1.2.2.2.2 hv
  rw [E1, E2.1, E2.2]
  refine ⟨am.1, z_Bs_f h1 (fun a q => am.2.1 a (by omega)) (fun j _ => by rw [am.2.1 s (by omega)]) (fun a i q => by rw [am.2.2 a (by omega) (by omega)]), z_any01 _ _ _, fun a q1 q2 => (am.2.1 a q2).trans (f1 a q1), fun a i q1 q2 q3 => by rw [am.2.2 a q2 q3]; exact f2 a i q1⟩
theorem z_oddsB {c s nc : Nat} (hc : z_cd c) (hs : z_st s) {S T : v_Sf} (h : z_Bs c s nc S T) {g j : Nat} (hg : g < 12) (hj : j < 12) (ht : ¬ T 116 g = 0) (hu : ¬ T 116 j = 0) : f_X3_atOdds c s (z_i g) (z_i j) S = f_X12_doQuarrel (z_i g) (z_i j) T ∧ z_Bs c s nc (g_X3_atOdds c s (z_i g) (z_i j) S) (g_X12_doQuarrel (z_i g) (z_i j) T) ∧ (∀ a, a ≠ 51 → a ≠ c + 3 → g_X3_atOdds c s (z_i g) (z_i j) S a = S a) ∧ ∀ a i, ¬ (a = 99 ∧ 27 ≤ i ∧ i ≤ 40) → a ≠ 114 → a ≠ 115 → g_X12_doQuarrel (z_i g) (z_i j) T a i = T a i := by
  have a1 := z_angryB hc hs h hg hj ht hu
  have a2 := z_angryB hc hs a1.2.1 hj hg (by rw [a1.2.2.2.2 116 _ (by omega) (by omega) (by omega)]; exact hu) (by rw [a1.2.2.2.2 116 _ (by omega) (by omega) (by omega)]; exact ht)
  unfold f_X3_atOdds g_X3_atOdds f_X12_doQuarrel g_X12_doQuarrel
  rw [a1.1, a2.1]
  by_cases q : f_X12_isAngry (z_i g) (z_i j) T = 0
  · simp only [if_pos q, if_neg (not_not_intro q)]
    refine ⟨?_, a2.2.1, fun a q1 q2 => (a2.2.2.2.1 a q1 q2).trans (a1.2.2.2.1 a q1 q2), fun a i q1 q2 q3 => (a2.2.2.2.2 a i q1 q2 q3).trans (a1.2.2.2.2 a i q1 q2 q3)⟩
    rcases a2.2.2.1 with e | e
    · rw [e]
      rfl
    · rw [e]
      rfl
  · simp only [if_neg q, if_pos q]
    exact ⟨trivial, a1.2.1, a1.2.2.2.1, a1.2.2.2.2⟩
section CA_quarrel
variable {L : Nat} {xs : Nat → Int32} {S : v_Sf} {R : v_Rf} {Q : Option Value → v_Sf → v_Rf → Prop}
end CA_quarrel
section CA_count
variable {L : Nat} {xs : Nat → Int32} {S : v_Sf} {R : v_Rf} {Q : Option Value → v_Sf → v_Rf → Prop}
end CA_count
section CA_added
variable {L : Nat} {xs : Nat → Int32} {S : v_Sf} {R : v_Rf} {Q : Option Value → v_Sf → v_Rf → Prop}
end CA_added
