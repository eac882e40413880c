/-! timetable: the call -/
theorem z_St_f {s : Nat} {S T S' T' : v_Sf} (h : z_St s S T) (f : ∀ a, (s < a ∧ a ≤ s + 8) → S' a = S a) (fs : ∀ j, (j = 0 ∨ j = 7 ∨ j = 11 ∨ j = 12 ∨ j = 13) → S' s j = S s j) (g : ∀ a j, (a = 99 ∧ (j = 60 ∨ j = 61 ∨ j = 62) ∨ 116 ≤ a ∧ a ≤ 122 ∨ 129 ≤ a ∧ a ≤ 131) → T' a j = T a j) : z_St s S' T' := by
  obtain ⟨a1, a2, a3, a4, a5, a6, a7, a8, a9, a10, a12, a13, a14⟩ := h
  have gr : ∀ a, (116 ≤ a ∧ a ≤ 122 ∨ 129 ≤ a ∧ a ≤ 131) → T' a = T a := fun a q => funext (fun j => g a j (by omega))
  have g99 : ∀ j, (j = 60 ∨ j = 61 ∨ j = 62) → T' 99 j = T 99 j := fun j q => g 99 j (by omega)
  refine ⟨?_, ?_, ?_, ?_, ?_, ?_, ?_, ?_, ?_, ?_, ?_, ?_, ?_⟩
  · rw [fs 0 (by omega), gr 116 (by omega)]
    exact a1
  · rw [f (s + 1) (by omega), gr 117 (by omega)]
    exact a2
  · rw [f (s + 2) (by omega), gr 116 (by omega), gr 118 (by omega)]
    exact a3
  · rw [f (s + 3) (by omega), gr 119 (by omega)]
    exact a4
  · rw [f (s + 4) (by omega), gr 120 (by omega)]
    exact a5
  · rw [f (s + 5) (by omega), gr 121 (by omega)]
    exact a6
  · rw [f (s + 6) (by omega), gr 122 (by omega)]
    exact a7
  · rw [fs 7 (by omega), gr 129 (by omega)]
    exact a8
  · rw [f (s + 7) (by omega), gr 130 (by omega)]
    exact a9
  · rw [f (s + 8) (by omega), gr 131 (by omega)]
    exact a10
  · rw [fs 11 (by omega), g99 60 (by omega)]
    exact a12
  · rw [fs 12 (by omega), g99 61 (by omega)]
    exact a13
  · rw [fs 13 (by omega), g99 62 (by omega)]
    exact a14
theorem z_tab_f {c b e : Nat} (hc : z_cd c) (hb : z_cd b) (he : z_cd e) (hec : e ≠ c) (heb : e ≠ b) {S T S' T' : v_Sf} (h : z_Rel c b S T) (f : ∀ a j, ¬ z_rc e a → ¬ (a = 45 ∧ j = 1) → S' a j = S a j) (f45 : S' 45 1 = 0) (g : ∀ a j, ¬ (a = 99 ∧ (j = 1 ∨ j = 3 ∨ j = 4 ∨ j = 5 ∨ j = 64 ∨ j = 65 ∨ j = 66)) → ¬ (133 ≤ a ∧ a ≤ 136) → T' a j = T a j) (g1 : T' 99 1 = 0) : z_Rel c b S' T' := by
  have hcn := z_cdl hc
  have hbn := z_cdl hb
  have hen := z_cdl he
  obtain ⟨⟨nc, hB⟩, hP, hT, _⟩ := id h
  have fr : ∀ a, (a < 45 ∨ a = 46 ∨ a = 48 ∨ c ≤ a ∧ a ≤ c + 6) → S' a = S a := fun a q => funext fun j => f a j (by unfold z_rc; omega) (by omega)
  refine z_Rel_f h ⟨nc, z_Bs_f hB (fun a q => fr a (by omega)) (fun j q => by rw [fr 1 (by omega)]) (fun a j q => g a j (by omega) (by omega))⟩ (z_PX_f hP (fr _ (by omega)) (by rw [fr 1 (by omega)]) (funext fun j => g _ _ (by omega) (by omega)) (funext fun j => g _ _ (by omega) (by omega)) (g _ _ (by omega) (by omega))) (z_Tp_0 hT (fr _ (by omega)) f45 (funext fun j => g _ _ (by omega) (by omega)) g1) (fun a j q => f a j (by unfold z_rc; omega) (by omega)) (fun a j q => g a j (by omega) (by omega))
theorem z_learn_n {M : Nat} (h : M ≤ 48) : z_max (Int32.ofInt 0) (z_min (z_min (z_i M) (Int32.ofNat 49)) (Int32.ofNat 48)) = z_i M := by
  refine z_inj2 ?_
  rw [z_maxI, z_minI, z_minI, z_it3 (by omega), show (Int32.ofNat 49).toInt = 49 from rfl, show (Int32.ofNat 48).toInt = 48 from rfl, show (Int32.ofInt 0).toInt = 0 from rfl]
  omega
theorem z_learn_rel {c b wd M : Nat} (hc : z_cd c) (hb : z_cd b) (hw : wd < 6) (hM : 1 ≤ M ∧ M ≤ 48) {S T U : v_Sf} (h : z_Rel c b S T) (k1 : ∀ j, j < M → z_ls (S 74 j) (U 126 (48 * wd + j))) (k2 : U 127 wd = z_i M) (k3 : U 128 wd = Int32.ofInt 0) (k4 : ∀ a j, ¬ (a = 126 ∧ 48 * wd ≤ j ∧ j < 48 * wd + M) → ¬ ((a = 127 ∨ a = 128) ∧ j = wd) → U a j = T a j) : z_Rel c b (z_s (g_X9_learnFrom (33 + 2 * wd) (z_i M) S) 10 wd (Int32.ofInt 0)) U := by
  have hcn := z_cdl hc
  have hbn := z_cdl hb
  have eM : (z_i M).toInt.toNat = M := z_iin (by omega)
  have eI : (z_i M).toInt = (M : Int) := z_it3 (by omega)
  obtain ⟨⟨nc, hB⟩, hP, hT, _⟩ := id h
  unfold g_X9_learnFrom z_cp
  rw [z_learn_n hM.2, eM]
  generalize hV : v_ur (z_s S (33 + 2 * wd) 1 (z_i M)) (33 + 2 * wd + 1) _ = V
  have v1 : ∀ a j, ¬ (a = 33 + 2 * wd ∧ j = 1) → a ≠ 33 + 2 * wd + 1 → V a j = S a j := fun a j q1 q2 => by
    rw [← hV, v_ur_n _ _ q2, z_sn q1]
  have v2 : V (33 + 2 * wd) 1 = z_i M := by
    rw [← hV, v_ur_n _ _ (by omega), z_ss]
  have v3 : ∀ j, j < M → V (33 + 2 * wd + 1) j = S 74 j := fun j q => by
    rw [← hV, v_ur_s, if_pos q, z_sn (by omega)]
  clear hV
  have f1 : ∀ a j, ¬ (a = 33 + 2 * wd ∧ j = 1) → a ≠ 33 + 2 * wd + 1 → ¬ (a = 10 ∧ j = wd) → z_s V 10 wd (Int32.ofInt 0) a j = S a j := fun a j q1 q2 q3 => (z_sn q3).trans (v1 a j q1 q2)
  have f2 : z_s V 10 wd (Int32.ofInt 0) (33 + 2 * wd) 1 = z_i M := (z_sn (by omega)).trans v2
  have f3 : ∀ j, j < M → z_s V 10 wd (Int32.ofInt 0) (33 + 2 * wd + 1) j = S 74 j := fun j q => (z_sn (by omega)).trans (v3 j q)
  have f4 : z_s V 10 wd (Int32.ofInt 0) 10 wd = Int32.ofInt 0 := z_ss
  generalize z_s V 10 wd (Int32.ofInt 0) = S2 at f1 f2 f3 f4 ⊢
  have fr : ∀ a, (a < 33 ∧ a ≠ 10 ∨ 44 < a) → S2 a = S a := fun a q => funext fun j => f1 a j (by omega) (by omega) (by omega)
  have gr : ∀ a, (a ≠ 126 ∧ a ≠ 127 ∧ a ≠ 128) → U a = T a := fun a q => funext fun j => k4 a j (by omega) (by omega)
  refine z_Rel_f h ⟨nc, z_St_f hB.1 (fun a q => fr a (by omega)) (fun j q => by rw [fr 1 (by omega)]) (fun a j q => k4 a j (by omega) (by omega)), fun w hw2 => ?_, ?_, z_LawR_t hB.2.2.2.1 (fr _ (by omega)) (fr _ (by omega)) (fr _ (by omega)) (fr _ (by omega)) (fr _ (by omega)) (fr _ (by omega)) (fun a j q => k4 a j (by omega) (by omega)), ?_⟩ ⟨fun w hw2 => ?_, fun w hw2 => ?_, ?_⟩ (z_Tp_f hT (fr _ (by omega)) (by rw [fr 45 (by omega)]) (gr _ (by omega)) (k4 _ _ (by omega) (by omega))) (fun a j q => f1 a j (by omega) (by omega) (by omega)) (fun a j q => k4 a j (by omega) (by omega))
  · by_cases q : w = wd
    · subst q
      obtain ⟨a1, a2, a3, a4, a5, a6, a7⟩ := hB.2.1 w hw
      rw [f2, k2, f1 _ 2 (by omega) (by omega) (by omega), f1 _ 3 (by omega) (by omega) (by omega), f1 _ 4 (by omega) (by omega) (by omega), gr 123 (by omega), gr 124 (by omega), gr 125 (by omega), eI]
      refine ⟨rfl, by omega, a3, a4, a5, a6, fun j hj => ?_⟩
      rw [f3 j (by omega)]
      exact k1 j (by omega)
    · obtain ⟨a1, a2, a3, a4, a5, a6, a7⟩ := hB.2.1 w hw2
      rw [f1 _ 1 (by omega) (by omega) (by omega), f1 _ 2 (by omega) (by omega) (by omega), f1 _ 3 (by omega) (by omega) (by omega), f1 _ 4 (by omega) (by omega) (by omega), gr 123 (by omega), gr 124 (by omega), gr 125 (by omega), k4 127 w (by omega) (by omega)]
      refine ⟨a1, a2, a3, a4, a5, a6, fun j hj => ?_⟩
      have hj2 : j < 48 := by omega
      rw [f1 _ _ (by omega) (by omega) (by omega), k4 126 _ (by omega) (by omega)]
      exact a7 j hj
  · rw [fr 48 (by omega), gr 132 (by omega)]
    exact hB.2.2.1
  · rw [gr 99 (by omega)]
    exact hB.2.2.2.2
  · show S2 10 w = U 128 w ∧ _
    by_cases q : w = wd
    · subst q
      rw [f4, k3]
      exact ⟨rfl, by decide, by decide⟩
    · rw [f1 10 w (by omega) (by omega) (by omega), k4 128 w (by omega) (by omega)]
      exact hP.1 w hw2
  · by_cases q : w = wd
    · subst q
      rw [k3]
      exact Or.inl rfl
    · rw [k4 128 w (by omega) (by omega), k4 127 w (by omega) (by omega)]
      exact hP.2.1 w hw2
  · rw [fr 1 (by omega), gr 99 (by omega)]
    exact hP.2.2
theorem z_tt_rel {c b e : Nat} (hc : z_cd c) (hb : z_cd b) (he : z_cd e) (hec : e ≠ c) (heb : e ≠ b) {S T : v_Sf} (h : z_Rel c b S T) (w a : Int32) : f_X11_timetable e w a S = f_X12_timetable w a T ∧ z_Rel c b (g_X11_timetable e w a S) (g_X12_timetable w a T) := by
  have hcn := z_cdl hc
  have hbn := z_cdl hb
  have hen := z_cdl he
  obtain ⟨⟨nc, hB⟩, hP, hT, hK, hO, h17, h25⟩ := id h
  unfold f_X11_timetable g_X11_timetable f_X12_timetable g_X12_timetable
  by_cases r : (0 ≤ w.toInt ∧ w.toInt ≤ 5) ∧ (1 ≤ a.toInt ∧ a.toInt ≤ 60) ∧ a ≤ T 99 1
  · obtain ⟨n, hn, rfl⟩ : ∃ n, (1 ≤ n ∧ n ≤ 60) ∧ a = z_i n := ⟨a.toInt.toNat, by omega, (z_ofN (by omega)).symm⟩
    obtain ⟨wd, hwd, rfl⟩ : ∃ wd, wd < 6 ∧ w = z_i wd := ⟨w.toInt.toNat, by omega, (z_ofN (by omega)).symm⟩
    have ew : (z_i wd).toInt.toNat = wd := z_iin (by omega)
    have e0 : 0 ≤ (z_i wd).toInt ∧ (z_i wd).toInt < ((6 : Nat) : Int) := by omega
    have e1 : ¬ z_i n < Int32.ofInt 1 := by
      rw [show Int32.ofInt 1 = z_i 1 from rfl, z_ilt (by omega) (by omega)]
      omega
    have e2 : ¬ Int32.ofInt 60 < z_i n := by
      rw [show Int32.ofInt 60 = z_i 60 from rfl, z_ilt (by omega) (by omega)]
      omega
    have e3 : z_i n ≤ S 45 1 := by
      rw [hT.2.1]
      exact r.2.2
    simp only [if_pos e0, if_neg e1, if_neg e2, if_pos e3, ite_self, ew]
    have fS : ∀ x j, ¬ z_rc e x → ¬ (x = 45 ∧ j = 1) → g_X8_empty (g_X5_readTimetable e (z_i n) S) x j = S x j := fun x j q1 q2 => by
      unfold g_X8_empty
      rw [z_sn q2, z_rd_tt (e := e) _ S x q1]
    have f45 : g_X8_empty (g_X5_readTimetable e (z_i n) S) 45 1 = 0 := by
      unfold g_X8_empty
      rw [z_ss]
      rfl
    rcases z_tt_ok he (z_by_T hT) (S := S) (T := T) (n := n) (wd := wd) (fun i _ => rfl) (fun i hi => ⟨(hT.1 i hi).1.symm, (hT.1 i hi).2⟩) hn e3 r.2.2 hwd with ⟨g1, U, g2, g3, g4⟩ | ⟨M, U, k1, k2, k3, k4, k5, k6, k7, k8, k9⟩
    · have le : f_X5_readTimetable e (z_i n) S ≤ 0 := by
        rw [z_leI2]
        have := z_ltI2.mp g1
        omega
      rw [g2, if_pos le]
      exact ⟨rfl, z_tab_f hc hb he hec heb h fS f45 g3 g4⟩
    · have np := (z_pos k1 (by omega)).2
      rw [k4, k3, if_neg np]
      refine ⟨rfl, ?_⟩
      have hR : z_Rel c b (g_X8_empty (g_X5_readTimetable e (z_i n) S)) (fun x j => if x = 126 ∨ x = 127 ∨ x = 128 then T x j else U x j) := by
        refine z_tab_f hc hb he hec heb h fS f45 (fun x j q1 q2 => ?_) ?_
        · by_cases q : x = 126 ∨ x = 127 ∨ x = 128
          · simp only [if_pos q]
          · simp only [if_neg q]
            exact k8 x j q1 q2 (by omega) (by omega)
        · simp only [show ¬ (99 = 126 ∨ 99 = 127 ∨ 99 = 128) by omega, if_false]
          exact k9
      refine z_learn_rel hc hb hwd ⟨k1, k2⟩ hR (fun j hj => ?_) k6 k7 (fun x j q1 q2 => ?_)
      · rw [show g_X8_empty (g_X5_readTimetable e (z_i n) S) 74 j = g_X5_readTimetable e (z_i n) S 74 j from z_sn (by omega)]
        exact k5 j hj
      · by_cases q : x = 126 ∨ x = 127 ∨ x = 128
        · simp only [if_pos q]
          exact k8 x j (by omega) (by omega) q1 q2
        · simp only [if_neg q]
  · have eC : g_X11_timetable e w a S = S ∧ f_X11_timetable e w a S = Int32.ofInt (-1) := by
      unfold f_X11_timetable g_X11_timetable
      by_cases q0 : 0 ≤ w.toInt ∧ w.toInt < ((6 : Nat) : Int)
      · by_cases q1 : a < Int32.ofInt 1
        · simp only [if_pos q0, if_pos q1]
          exact ⟨trivial, trivial⟩
        · by_cases q2 : Int32.ofInt 60 < a
          · simp only [if_pos q0, if_neg q1, if_pos q2]
            exact ⟨trivial, trivial⟩
          · have q3 : ¬ a ≤ S 45 1 := by
              intro m
              rw [hT.2.1] at m
              rw [z_ltI2, show (Int32.ofInt 1).toInt = 1 from rfl] at q1
              rw [z_ltI2, show (Int32.ofInt 60).toInt = 60 from rfl] at q2
              exact r ⟨⟨by omega, by omega⟩, ⟨by omega, by omega⟩, m⟩
            simp only [if_pos q0, if_neg q1, if_neg q2, if_neg q3]
            exact ⟨trivial, trivial⟩
      · simp only [if_neg q0]
        exact ⟨trivial, trivial⟩
    have eM : F_X12_timetable w a T = (Int32.ofInt (-1), T) := by
      unfold F_X12_timetable f_X12_isWard
      by_cases q0 : z_in w 0 5 = 0
      · rw [if_pos q0]
      · by_cases q1 : z_in a 1 60 = 0
        · rw [if_neg q0, if_pos q1]
        · have q3 : ¬ a ≤ T 99 1 := by
            intro m
            refine r ⟨?_, ?_, m⟩
            · exact Classical.byContradiction (fun z => q0 (z_in0.mpr z))
            · exact Classical.byContradiction (fun z => q1 (z_in0.mpr z))
          rw [if_neg q0, if_neg q1, if_neg q3]
    have eC' := eC
    unfold f_X11_timetable g_X11_timetable at eC'
    rw [eC'.1, eC'.2, eM]
    exact ⟨rfl, h⟩
