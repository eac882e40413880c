/-! gust, ward, feed -/
theorem z_co_w {n : Nat} {A B A' B' : Nat → Int32} {lo hi : Int} {i : Nat} {v : Int32} (h : z_co n A B lo hi) (hv : lo ≤ v.toInt ∧ v.toInt ≤ hi) (fA : ∀ j, A' j = if j = i then v else A j) (fB : ∀ j, B' j = if j = i then v else B j) : z_co n A' B' lo hi := by
  intro j hj
  rw [fA, fB]
  by_cases q : j = i
  · rw [if_pos q, if_pos q]
    exact ⟨rfl, hv⟩
  · rw [if_neg q, if_neg q]
    exact h j hj
/-- a State that has changed, all else as it was -/
theorem z_Rel_st {c b : Nat} (hc : z_cd c) (hb : z_cd b) {S T S' T' : v_Sf} (h : z_Rel c b S T) (h1 : z_St 1 S' T') (f : ∀ a j, ¬ (a = 1 ∧ j ≠ 14 ∨ 2 ≤ a ∧ a ≤ 9) → S' a j = S a j) (g : ∀ a j, ¬ (116 ≤ a ∧ a ≤ 122 ∨ 129 ≤ a ∧ a ≤ 131) → T' a j = T a j) : z_Rel c b S' T' := by
  have hcn := z_cdl hc
  have hbn := z_cdl hb
  obtain ⟨⟨nc, hB⟩, hP, hT, _⟩ := id h
  exact z_Rel_f h ⟨nc, z_Bs_st hc hB h1 (fun a q => funext fun j => f a j (by omega)) (fun a j q => g a j (by omega))⟩ (z_PX_f hP (funext fun j => f _ j (by omega)) (f _ _ (by omega)) (funext fun j => g _ _ (by omega)) (funext fun j => g _ _ (by omega)) (g _ _ (by omega))) (z_Tp_f hT (funext fun j => f _ _ (by omega)) (f _ _ (by omega)) (funext fun j => g _ _ (by omega)) (g _ _ (by omega))) (fun a j q => f a j (by omega)) (fun a j q => g a j (by omega))
theorem z_gust_ok {c b : Nat} (hc : z_cd c) (hb : z_cd b) {S T : v_Sf} (h : z_Rel c b S T) (g x y w l : Int32) : f_X11_gust g x y w l S = f_X12_gust g x y w l T ∧ z_Rel c b (g_X11_gust g x y w l S) (g_X12_gust g x y w l T) := by
  unfold f_X11_gust g_X11_gust f_X12_gust g_X12_gust f_X12_isWard
  by_cases r0 : 0 ≤ g.toInt ∧ g.toInt ≤ 11
  · have a0 : ¬ f_X11_within g (Int32.ofInt 11) = 0 := fun m => z_within.mp m r0
    have b0 : ¬ z_in g 0 11 = 0 := fun m => z_in0.mp m r0
    simp only [if_neg a0, if_neg b0]
    by_cases r1 : 0 ≤ x.toInt ∧ x.toInt ≤ 99
    · have a1 : ¬ f_X11_within x (Int32.ofInt 99) = 0 := fun m => z_within.mp m r1
      have b1 : ¬ z_in x 0 99 = 0 := fun m => z_in0.mp m r1
      simp only [if_neg a1, if_neg b1]
      by_cases r2 : 0 ≤ y.toInt ∧ y.toInt ≤ 9
      · have a2 : ¬ f_X11_within y (Int32.ofInt 9) = 0 := fun m => z_within.mp m r2
        have b2 : ¬ z_in y 0 9 = 0 := fun m => z_in0.mp m r2
        simp only [if_neg a2, if_neg b2]
        by_cases r3 : 0 ≤ w.toInt ∧ w.toInt ≤ 5
        · have a3 : ¬ f_X11_within w (Int32.ofInt 5) = 0 := fun m => z_within.mp m r3
          have b3 : ¬ z_in w 0 5 = 0 := fun m => z_in0.mp m r3
          simp only [if_neg a3, if_neg b3]
          by_cases r4 : 0 ≤ l.toInt ∧ l.toInt ≤ 9
          · have a4 : ¬ f_X11_within l (Int32.ofInt 9) = 0 := fun m => z_within.mp m r4
            have b4 : ¬ z_in l 0 9 = 0 := fun m => z_in0.mp m r4
            simp only [if_neg a4, if_pos b4]
            obtain ⟨i, hi, rfl⟩ : ∃ i, i < 12 ∧ g = z_i i := ⟨g.toInt.toNat, by omega, (z_ofN r0.1).symm⟩
            have ei : (z_i i).toInt.toNat = i := z_iin (by omega)
            rw [ei, z_nar1]
            refine ⟨trivial, ?_⟩
            obtain ⟨a1, a2, a3, a4, a5, a6, a7, a8, a9, a10, a12, a13, a14⟩ := id h.1.choose_spec.1
            have t12 := z_told_or (n := 12) (by decide) a1 hi z_n1n
            have fS : ∀ a j, ¬ (a = 1 ∧ j = 0 ∨ 2 ≤ a ∧ a ≤ 7) → (z_s (z_s (z_s (z_s (z_s (z_s (z_s S 1 0 ((S 1 0) ||| ((Int32.ofInt 1) <<< (z_i i &&& 31)))) 2 i x) 4 i y) 5 i w) 6 i l) 3 i (Int32.ofInt 8)) 7 i (Int32.ofInt 0)) a j = S a j := fun a j m => by rw [z_sn (by omega), z_sn (by omega), z_sn (by omega), z_sn (by omega), z_sn (by omega), z_sn (by omega), z_sn (by omega)]
            have fT : ∀ a j, ¬ (116 ≤ a ∧ a ≤ 122) → (z_s (z_s (z_s (z_s (z_s (z_s (z_s T 116 i (Int32.ofInt 1)) 117 i x) 118 i (Int32.ofInt (-1))) 119 i y) 120 i w) 121 i l) 122 i (Int32.ofInt 0)) a j = T a j := fun a j m => by rw [z_sn (by omega), z_sn (by omega), z_sn (by omega), z_sn (by omega), z_sn (by omega), z_sn (by omega), z_sn (by omega)]
            have s0 : (z_s (z_s (z_s (z_s (z_s (z_s (z_s S 1 0 ((S 1 0) ||| ((Int32.ofInt 1) <<< (z_i i &&& 31)))) 2 i x) 4 i y) 5 i w) 6 i l) 3 i (Int32.ofInt 8)) 7 i (Int32.ofInt 0)) 1 0 = (S 1 0) ||| ((Int32.ofInt 1) <<< (z_i i &&& 31)) := by simp [z_s_eq]
            have s2 : ∀ j, (z_s (z_s (z_s (z_s (z_s (z_s (z_s S 1 0 ((S 1 0) ||| ((Int32.ofInt 1) <<< (z_i i &&& 31)))) 2 i x) 4 i y) 5 i w) 6 i l) 3 i (Int32.ofInt 8)) 7 i (Int32.ofInt 0)) 2 j = if j = i then x else S 2 j := fun j => by simp [z_s_eq]
            have s3 : ∀ j, (z_s (z_s (z_s (z_s (z_s (z_s (z_s S 1 0 ((S 1 0) ||| ((Int32.ofInt 1) <<< (z_i i &&& 31)))) 2 i x) 4 i y) 5 i w) 6 i l) 3 i (Int32.ofInt 8)) 7 i (Int32.ofInt 0)) 3 j = if j = i then Int32.ofInt 8 else S 3 j := fun j => by simp [z_s_eq]
            have s4 : ∀ j, (z_s (z_s (z_s (z_s (z_s (z_s (z_s S 1 0 ((S 1 0) ||| ((Int32.ofInt 1) <<< (z_i i &&& 31)))) 2 i x) 4 i y) 5 i w) 6 i l) 3 i (Int32.ofInt 8)) 7 i (Int32.ofInt 0)) 4 j = if j = i then y else S 4 j := fun j => by simp [z_s_eq]
            have s5 : ∀ j, (z_s (z_s (z_s (z_s (z_s (z_s (z_s S 1 0 ((S 1 0) ||| ((Int32.ofInt 1) <<< (z_i i &&& 31)))) 2 i x) 4 i y) 5 i w) 6 i l) 3 i (Int32.ofInt 8)) 7 i (Int32.ofInt 0)) 5 j = if j = i then w else S 5 j := fun j => by simp [z_s_eq]
            have s6 : ∀ j, (z_s (z_s (z_s (z_s (z_s (z_s (z_s S 1 0 ((S 1 0) ||| ((Int32.ofInt 1) <<< (z_i i &&& 31)))) 2 i x) 4 i y) 5 i w) 6 i l) 3 i (Int32.ofInt 8)) 7 i (Int32.ofInt 0)) 6 j = if j = i then l else S 6 j := fun j => by simp [z_s_eq]
            have s7 : ∀ j, (z_s (z_s (z_s (z_s (z_s (z_s (z_s S 1 0 ((S 1 0) ||| ((Int32.ofInt 1) <<< (z_i i &&& 31)))) 2 i x) 4 i y) 5 i w) 6 i l) 3 i (Int32.ofInt 8)) 7 i (Int32.ofInt 0)) 7 j = if j = i then Int32.ofInt 0 else S 7 j := fun j => by simp [z_s_eq]
            have t6 : ∀ j, (z_s (z_s (z_s (z_s (z_s (z_s (z_s T 116 i (Int32.ofInt 1)) 117 i x) 118 i (Int32.ofInt (-1))) 119 i y) 120 i w) 121 i l) 122 i (Int32.ofInt 0)) 116 j = if j = i then Int32.ofInt 1 else T 116 j := fun j => by simp [z_s_eq]
            have t7 : ∀ j, (z_s (z_s (z_s (z_s (z_s (z_s (z_s T 116 i (Int32.ofInt 1)) 117 i x) 118 i (Int32.ofInt (-1))) 119 i y) 120 i w) 121 i l) 122 i (Int32.ofInt 0)) 117 j = if j = i then x else T 117 j := fun j => by simp [z_s_eq]
            have t8 : ∀ j, (z_s (z_s (z_s (z_s (z_s (z_s (z_s T 116 i (Int32.ofInt 1)) 117 i x) 118 i (Int32.ofInt (-1))) 119 i y) 120 i w) 121 i l) 122 i (Int32.ofInt 0)) 118 j = if j = i then Int32.ofInt (-1) else T 118 j := fun j => by simp [z_s_eq]
            have t9 : ∀ j, (z_s (z_s (z_s (z_s (z_s (z_s (z_s T 116 i (Int32.ofInt 1)) 117 i x) 118 i (Int32.ofInt (-1))) 119 i y) 120 i w) 121 i l) 122 i (Int32.ofInt 0)) 119 j = if j = i then y else T 119 j := fun j => by simp [z_s_eq]
            have t0 : ∀ j, (z_s (z_s (z_s (z_s (z_s (z_s (z_s T 116 i (Int32.ofInt 1)) 117 i x) 118 i (Int32.ofInt (-1))) 119 i y) 120 i w) 121 i l) 122 i (Int32.ofInt 0)) 120 j = if j = i then w else T 120 j := fun j => by simp [z_s_eq]
            have t1 : ∀ j, (z_s (z_s (z_s (z_s (z_s (z_s (z_s T 116 i (Int32.ofInt 1)) 117 i x) 118 i (Int32.ofInt (-1))) 119 i y) 120 i w) 121 i l) 122 i (Int32.ofInt 0)) 121 j = if j = i then l else T 121 j := fun j => by simp [z_s_eq]
            have t2 : ∀ j, (z_s (z_s (z_s (z_s (z_s (z_s (z_s T 116 i (Int32.ofInt 1)) 117 i x) 118 i (Int32.ofInt (-1))) 119 i y) 120 i w) 121 i l) 122 i (Int32.ofInt 0)) 122 j = if j = i then Int32.ofInt 0 else T 122 j := fun j => by simp [z_s_eq]
            have e6 : (z_s (z_s (z_s (z_s (z_s (z_s (z_s T 116 i (Int32.ofInt 1)) 117 i x) 118 i (Int32.ofInt (-1))) 119 i y) 120 i w) 121 i l) 122 i (Int32.ofInt 0)) 116 = z_s T 116 i (Int32.ofInt 1) 116 := funext fun j => by rw [t6, z_s_eq]; simp
            generalize (z_s (z_s (z_s (z_s (z_s (z_s (z_s S 1 0 ((S 1 0) ||| ((Int32.ofInt 1) <<< (z_i i &&& 31)))) 2 i x) 4 i y) 5 i w) 6 i l) 3 i (Int32.ofInt 8)) 7 i (Int32.ofInt 0)) = S' at *
            generalize (z_s (z_s (z_s (z_s (z_s (z_s (z_s T 116 i (Int32.ofInt 1)) 117 i x) 118 i (Int32.ofInt (-1))) 119 i y) 120 i w) 121 i l) 122 i (Int32.ofInt 0)) = T' at *
            refine z_Rel_st hc hb h ⟨?_, z_co_w a2 r1 s2 t7, fun k hk m => ?_, z_co_w a4 r2 s4 t9, z_co_w a5 r3 s5 t0, z_co_w a6 r4 s6 t1, z_co_w a7 (by decide) s7 t2, ?_, ?_, ?_, ?_, ?_, ?_⟩ (fun a j m => fS a j (by omega)) (fun a j m => fT a j (by omega))
            · rw [s0, e6]
              exact t12
            · rw [t6] at m
              rw [show (1 + 2 : Nat) = 3 from rfl, s3, t8]
              by_cases q : k = i
              · rw [if_pos q, if_pos q]
                exact Or.inl ⟨rfl, rfl⟩
              · rw [if_neg q] at m
                rw [if_neg q, if_neg q]
                exact a3 k hk m
            · rw [fS 1 7 (by omega), show T' 129 = T 129 from funext fun j => fT _ j (by omega)]
              exact a8
            · rw [show S' (1 + 7) = S (1 + 7) from funext fun j => fS _ j (by omega), show T' 130 = T 130 from funext fun j => fT _ j (by omega)]
              exact a9
            · rw [show S' (1 + 8) = S (1 + 8) from funext fun j => fS _ j (by omega), show T' 131 = T 131 from funext fun j => fT _ j (by omega)]
              exact a10
            · rw [fS 1 11 (by omega), fT 99 60 (by omega)]
              exact a12
            · rw [fS 1 12 (by omega), fT 99 61 (by omega)]
              exact a13
            · rw [fS 1 13 (by omega), fT 99 62 (by omega)]
              exact a14
          · have a4 : f_X11_within l (Int32.ofInt 9) = 0 := z_within.mpr r4
            have b4 : z_in l 0 9 = 0 := z_in0.mpr r4
            simp only [if_pos a4, if_neg (not_not_intro b4)]
            exact ⟨trivial, h⟩
        · have a3 : f_X11_within w (Int32.ofInt 5) = 0 := z_within.mpr r3
          have b3 : z_in w 0 5 = 0 := z_in0.mpr r3
          simp only [if_pos a3, if_pos b3]
          exact ⟨trivial, h⟩
      · have a2 : f_X11_within y (Int32.ofInt 9) = 0 := z_within.mpr r2
        have b2 : z_in y 0 9 = 0 := z_in0.mpr r2
        simp only [if_pos a2, if_pos b2]
        exact ⟨trivial, h⟩
    · have a1 : f_X11_within x (Int32.ofInt 99) = 0 := z_within.mpr r1
      have b1 : z_in x 0 99 = 0 := z_in0.mpr r1
      simp only [if_pos a1, if_pos b1]
      exact ⟨trivial, h⟩
  · have a0 : f_X11_within g (Int32.ofInt 11) = 0 := z_within.mpr r0
    have b0 : z_in g 0 11 = 0 := z_in0.mpr r0
    simp only [if_pos a0, if_pos b0]
    exact ⟨trivial, h⟩
theorem z_ward_ok {c b : Nat} (hc : z_cd c) (hb : z_cd b) {S T : v_Sf} (h : z_Rel c b S T) (w x y k : Int32) : f_X11_ward w x y k S = f_X12_ward w x y k T ∧ z_Rel c b (g_X11_ward w x y k S) (g_X12_ward w x y k T) := by
  have hcn := z_cdl hc
  have hbn := z_cdl hb
  obtain ⟨⟨nc, hB⟩, hP, hT, _⟩ := id h
  unfold f_X11_ward g_X11_ward f_X12_ward g_X12_ward f_X12_isWard
  by_cases r0 : 0 ≤ w.toInt ∧ w.toInt ≤ 5
  · have a0 : 0 ≤ w.toInt ∧ w.toInt < ((6 : Nat) : Int) := by omega
    have b0 : ¬ z_in w 0 5 = 0 := fun m => z_in0.mp m r0
    simp only [if_pos a0, if_neg b0]
    by_cases r1 : 0 ≤ x.toInt ∧ x.toInt ≤ 9
    · have a1 : ¬ f_X11_within x (Int32.ofInt 9) = 0 := fun m => z_within.mp m r1
      have b1 : ¬ z_in x 0 9 = 0 := fun m => z_in0.mp m r1
      simp only [if_neg a1, if_neg b1]
      by_cases r2 : 0 ≤ y.toInt ∧ y.toInt ≤ 9
      · have a2 : ¬ f_X11_within y (Int32.ofInt 9) = 0 := fun m => z_within.mp m r2
        have b2 : ¬ z_in y 0 9 = 0 := fun m => z_in0.mp m r2
        simp only [if_neg a2, if_neg b2]
        by_cases r3 : -1 ≤ k.toInt ∧ k.toInt ≤ 4
        · have b3 : ¬ z_in k (-1) 4 = 0 := fun m => z_in0.mp m r3
          obtain ⟨wd, hwd, rfl⟩ : ∃ wd, wd < 6 ∧ w = z_i wd := ⟨w.toInt.toNat, by omega, (z_ofN r0.1).symm⟩
          have ei : (z_i wd).toInt.toNat = wd := z_iin (by omega)
          have main : z_Rel c b (z_s (z_s (z_s S (33 + 2 * wd) 2 x) (33 + 2 * wd) 3 y) (33 + 2 * wd) 4 k) (z_s (z_s (z_s T 123 wd x) 124 wd y) 125 wd k) := by
            have f1 : ∀ a j, ¬ (a = 33 + 2 * wd ∧ (j = 2 ∨ j = 3 ∨ j = 4)) → (z_s (z_s (z_s S (33 + 2 * wd) 2 x) (33 + 2 * wd) 3 y) (33 + 2 * wd) 4 k) a j = S a j := fun a j m => by rw [z_sn (by omega), z_sn (by omega), z_sn (by omega)]
            have f2 : (z_s (z_s (z_s S (33 + 2 * wd) 2 x) (33 + 2 * wd) 3 y) (33 + 2 * wd) 4 k) (33 + 2 * wd) 2 = x := by rw [z_sn (by omega), z_sn (by omega), z_ss]
            have f3 : (z_s (z_s (z_s S (33 + 2 * wd) 2 x) (33 + 2 * wd) 3 y) (33 + 2 * wd) 4 k) (33 + 2 * wd) 3 = y := by rw [z_sn (by omega), z_ss]
            have f4 : (z_s (z_s (z_s S (33 + 2 * wd) 2 x) (33 + 2 * wd) 3 y) (33 + 2 * wd) 4 k) (33 + 2 * wd) 4 = k := z_ss
            have g1 : ∀ a j, ¬ ((a = 123 ∨ a = 124 ∨ a = 125) ∧ j = wd) → (z_s (z_s (z_s T 123 wd x) 124 wd y) 125 wd k) a j = T a j := fun a j m => by rw [z_sn (by omega), z_sn (by omega), z_sn (by omega)]
            have g2 : (z_s (z_s (z_s T 123 wd x) 124 wd y) 125 wd k) 123 wd = x := by rw [z_sn (by omega), z_sn (by omega), z_ss]
            have g3 : (z_s (z_s (z_s T 123 wd x) 124 wd y) 125 wd k) 124 wd = y := by rw [z_sn (by omega), z_ss]
            have g4 : (z_s (z_s (z_s T 123 wd x) 124 wd y) 125 wd k) 125 wd = k := z_ss
            generalize (z_s (z_s (z_s S (33 + 2 * wd) 2 x) (33 + 2 * wd) 3 y) (33 + 2 * wd) 4 k) = S' at *
            generalize (z_s (z_s (z_s T 123 wd x) 124 wd y) 125 wd k) = T' at *
            have fr : ∀ a, (a < 33 ∨ 44 ≤ a) → S' a = S a := fun a q => funext fun j => f1 a j (by omega)
            have gr : ∀ a, (a ≠ 123 ∧ a ≠ 124 ∧ a ≠ 125) → T' a = T a := fun a q => funext fun j => g1 a j (by omega)
            refine z_Rel_f h ⟨nc, z_St_f hB.1 (fun a q => fr a (by omega)) (fun j q => by rw [fr 1 (by omega)]) (fun a j q => g1 a j (by omega)), fun v hv => ?_, ?_, z_LawR_t hB.2.2.2.1 (fr _ (by omega)) (fr _ (by omega)) (fr _ (by omega)) (fr _ (by omega)) (fr _ (by omega)) (fr _ (by omega)) (fun a j q => g1 a j (by omega)), ?_⟩ (z_PX_f hP (fr _ (by omega)) (by rw [fr 1 (by omega)]) (gr _ (by omega)) (gr _ (by omega)) (by rw [gr 99 (by omega)])) (z_Tp_f hT (fr _ (by omega)) (by rw [fr 45 (by omega)]) (gr _ (by omega)) (by rw [gr 99 (by omega)])) (fun a j q => f1 a j (by omega)) (fun a j q => g1 a j (by omega))
            · obtain ⟨d1, d2, d3, d4, d5, d6, d7⟩ := hB.2.1 v hv
              by_cases q : v = wd
              · subst q
                rw [f1 _ 1 (by omega), gr 127 (by omega), f2, g2, f3, g3, f4, g4]
                refine ⟨d1, d2, rfl, rfl, rfl, r3, fun j hj => ?_⟩
                rw [f1 _ _ (by omega), gr 126 (by omega)]
                exact d7 j hj
              · rw [f1 _ 1 (by omega), f1 _ 2 (by omega), f1 _ 3 (by omega), f1 _ 4 (by omega), gr 127 (by omega), g1 123 v (by omega), g1 124 v (by omega), g1 125 v (by omega)]
                refine ⟨d1, d2, d3, d4, d5, d6, fun j hj => ?_⟩
                rw [f1 _ _ (by omega), gr 126 (by omega)]
                exact d7 j hj
            · rw [fr 48 (by omega), gr 132 (by omega)]
              exact hB.2.2.1
            · rw [gr 99 (by omega)]
              exact hB.2.2.2.2
          rw [ei]
          simp only [if_pos b3]
          by_cases k1 : k = Int32.ofInt (-1)
          · simp only [if_pos k1]
            exact ⟨trivial, main⟩
          · have k2 := z_ne k1
            have a3 : ¬ f_X11_within k (Int32.ofInt 4) = 0 := fun m => z_within.mp m (show 0 ≤ k.toInt ∧ k.toInt ≤ 4 by omega)
            simp only [if_neg k1, if_neg a3]
            exact ⟨trivial, main⟩
        · have b3 : ¬ ¬ z_in k (-1) 4 = 0 := fun m => m (z_in0.mpr r3)
          have k1 : ¬ k = Int32.ofInt (-1) := fun e => r3 (by rw [e]; decide)
          have a3 : f_X11_within k (Int32.ofInt 4) = 0 := z_within.mpr (show ¬ (0 ≤ k.toInt ∧ k.toInt ≤ 4) by omega)
          simp only [if_neg b3, if_neg k1, if_pos a3]
          exact ⟨trivial, h⟩
      · have a2 : f_X11_within y (Int32.ofInt 9) = 0 := z_within.mpr r2
        have b2 : z_in y 0 9 = 0 := z_in0.mpr r2
        simp only [if_pos a2, if_pos b2]
        exact ⟨trivial, h⟩
    · have a1 : f_X11_within x (Int32.ofInt 9) = 0 := z_within.mpr r1
      have b1 : z_in x 0 9 = 0 := z_in0.mpr r1
      simp only [if_pos a1, if_pos b1]
      exact ⟨trivial, h⟩
  · have a0 : ¬ (0 ≤ w.toInt ∧ w.toInt < ((6 : Nat) : Int)) := by omega
    have b0 : z_in w 0 5 = 0 := z_in0.mpr r0
    simp only [if_neg a0, if_pos b0, ite_self]
    exact ⟨trivial, h⟩
/-! feed -/
theorem z_byL_all : ∀ i : Fin 32, 8 ≤ i.val → (Int32.ofInt 255).toBitVec.getLsbD i.val = false := by decide +kernel
theorem z_byA (x : Int32) : u_nar 1 (x.toInt8.toInt32) &&& Int32.ofInt 255 = x &&& Int32.ofInt 255 := by
  have e : u_nar 1 (x.toInt8.toInt32) = x.toInt8.toInt32 := pk_vb x
  rw [e]
  refine Int32.toBitVec_inj.mp (BitVec.eq_of_getLsbD_eq fun i hi => ?_)
  rw [Int32.toBitVec_and, Int32.toBitVec_and, BitVec.getLsbD_and, BitVec.getLsbD_and]
  by_cases q : i < 8
  · have h1 : (x.toInt8.toInt32).toBitVec.getLsbD i = x.toBitVec.getLsbD i := by
      rw [Int8.toBitVec_toInt32, BitVec.getLsbD_signExtend, Int32.toBitVec_toInt8, BitVec.getLsbD_signExtend]
      simp [q, hi]
    rw [h1]
  · rw [z_byL_all ⟨i, hi⟩ (by simpa using q)]
    simp
theorem z_byR (x : Int32) : -128 ≤ (u_nar 1 (x.toInt8.toInt32)).toInt ∧ (u_nar 1 (x.toInt8.toInt32)).toInt ≤ 127 := by
  have e : u_nar 1 (x.toInt8.toInt32) = x.toInt8.toInt32 := pk_vb x
  rw [e, Int8.toInt_toInt32]
  have h1 := Int8.le_toInt x.toInt8
  have h2 := Int8.toInt_lt x.toInt8
  omega
theorem z_app {S T : v_Sf} (h : z_Tp S T) {n : Nat} (hn : T 99 1 = z_i n) (h4 : n + 4 ≤ 260) (w : Int32) : z_Tp (g_X8_append w S) (g_X12_push w T) ∧ g_X12_push w T 99 1 = z_i (n + 4) ∧ (∀ a j, ¬ (a = 45 ∧ j = 1 ∨ a = 46) → g_X8_append w S a j = S a j) ∧ (∀ a j, ¬ (a = 99 ∧ j = 1 ∨ a = 100) → g_X12_push w T a j = T a j) := by
  have hS : S 45 1 = z_i n := h.2.1.trans hn
  have e0 : (z_i n).toInt.toNat = n := z_iin (by omega)
  have e1 : (z_i (n + 1)).toInt.toNat = n + 1 := z_iin (by omega)
  have e2 : (z_i (n + 1 + 1)).toInt.toNat = n + 1 + 1 := z_iin (by omega)
  have e3 : (z_i (n + 1 + 1 + 1)).toInt.toNat = n + 1 + 1 + 1 := z_iin (by omega)
  have cc : ∀ k, k < 260 → ¬ Int32.ofNat 260 ≤ z_i k := fun k hk => by
    rw [show Int32.ofNat 260 = z_i 260 by decide, z_ile (by omega) (by omega)]
    omega
  unfold g_X8_append g_X12_push
  simp only [hS, hn, z_i1, if_neg (cc n (by omega)), if_neg (cc (n + 1) (by omega)), if_neg (cc (n + 1 + 1) (by omega)), if_neg (cc (n + 1 + 1 + 1) (by omega)), e0, e1, e2, e3]
  refine ⟨⟨fun i hi => ?_, ?_, ?_, ?_⟩, ?_, fun a j q => ?_, fun a j q => ?_⟩
  · simp only [z_s_eq]
    simp only [show ¬ (46 : Nat) = 45 by decide, show ¬ (100 : Nat) = 99 by decide, false_and, true_and, if_false]
    by_cases q3 : i = n + 1 + 1 + 1
    · simp only [if_pos q3]
      exact ⟨(z_byA _).symm, z_byR _⟩
    · simp only [if_neg q3]
      by_cases q2 : i = n + 1 + 1
      · simp only [if_pos q2]
        exact ⟨(z_byA _).symm, z_byR _⟩
      · simp only [if_neg q2]
        by_cases q1 : i = n + 1
        · simp only [if_pos q1]
          exact ⟨(z_byA _).symm, z_byR _⟩
        · simp only [if_neg q1]
          by_cases q0 : i = n
          · simp only [if_pos q0]
            exact ⟨(z_byA _).symm, z_byR _⟩
          · simp only [if_neg q0]
            exact h.1 i hi
  · rw [z_ss, z_ss]
  · rw [z_ss, z_it3 (by omega)]
    omega
  · rw [z_ss, z_it3 (by omega)]
    omega
  · rw [z_ss]
  · rw [z_sn (by omega), z_sn (by omega), z_sn (by omega), z_sn (by omega), z_sn (by omega), z_sn (by omega), z_sn (by omega), z_sn (by omega)]
  · rw [z_sn (by omega), z_sn (by omega), z_sn (by omega), z_sn (by omega), z_sn (by omega), z_sn (by omega), z_sn (by omega), z_sn (by omega)]
theorem z_feed_ok {c b : Nat} (hc : z_cd c) (hb : z_cd b) {S T : v_Sf} (h : z_Rel c b S T) (x y z k l : Int32) : f_X11_feed x y z k l S = f_X12_feed x y z k l T ∧ z_Rel c b (g_X11_feed x y z k l S) (g_X12_feed x y z k l T) := by
  have hcn := z_cdl hc
  have hbn := z_cdl hb
  obtain ⟨⟨nc, hB⟩, hP, hT, _⟩ := id h
  obtain ⟨n, hn2, hn⟩ : ∃ n, n ≤ 260 ∧ T 99 1 = z_i n := ⟨(T 99 1).toInt.toNat, by have h1 := hT.2.2.2; omega, (z_ofN hT.2.2.1).symm⟩
  have hS : S 45 1 = z_i n := hT.2.1.trans hn
  unfold f_X11_feed g_X11_feed f_X12_feed g_X12_feed f_X8_takes
  rw [hS, hn, show Int32.ofInt 20 = z_i 20 from rfl, z_iadd, show Int32.ofNat 260 = z_i 260 by decide, show Int32.ofInt 260 = z_i 260 from rfl]
  by_cases q : n + 20 ≤ 260
  · have q1 : ¬ z_i 260 < z_i (n + 20) := by
      rw [z_ilt (by omega) (by omega)]
      omega
    have q2 : z_i (n + 20) ≤ z_i 260 := by
      rw [z_ile (by omega) (by omega)]
      omega
    simp only [if_neg q1, if_pos q2, if_pos z_n1n]
    obtain ⟨h1, n1, f1, g1⟩ := z_app hT hn (by omega) x
    obtain ⟨h2, n2, f2, g2⟩ := z_app h1 n1 (by omega) y
    obtain ⟨h3, n3, f3, g3⟩ := z_app h2 n2 (by omega) z
    obtain ⟨h4, n4, f4, g4⟩ := z_app h3 n3 (by omega) k
    obtain ⟨h5, n5, f5, g5⟩ := z_app h4 n4 (by omega) l
    have F : ∀ a j, ¬ (a = 45 ∧ j = 1 ∨ a = 46) → g_X8_append l (g_X8_append k (g_X8_append z (g_X8_append y (g_X8_append x S)))) a j = S a j := fun a j m => (f5 a j m).trans ((f4 a j m).trans ((f3 a j m).trans ((f2 a j m).trans (f1 a j m))))
    have G : ∀ a j, ¬ (a = 99 ∧ j = 1 ∨ a = 100) → g_X12_push l (g_X12_push k (g_X12_push z (g_X12_push y (g_X12_push x T)))) a j = T a j := fun a j m => (g5 a j m).trans ((g4 a j m).trans ((g3 a j m).trans ((g2 a j m).trans (g1 a j m))))
    refine ⟨h5.2.1, z_Rel_f h ⟨nc, z_Bs_f hB (fun a q => funext fun j => F a j (by omega)) (fun j q => F _ _ (by omega)) (fun a j q => G a j (by omega))⟩ (z_PX_f hP (funext fun j => F _ _ (by omega)) (F _ _ (by omega)) (funext fun j => G _ _ (by omega)) (funext fun j => G _ _ (by omega)) (G _ _ (by omega))) h5 (fun a j q => F a j (by omega)) (fun a j q => G a j (by omega))⟩
  · have q1 : z_i 260 < z_i (n + 20) := by
      rw [z_ilt (by omega) (by omega)]
      omega
    have q2 : ¬ z_i (n + 20) ≤ z_i 260 := by
      rw [z_ile (by omega) (by omega)]
      omega
    simp only [if_pos q1, if_neg q2, if_neg (not_not_intro (show Int32.ofInt 0 = 0 from rfl))]
    exact ⟨trivial, h⟩
