/-! tried: what it leaves as it was -/
theorem z_Ks_f2 {S T S' T' : v_Sf} (h : z_Ks S T) (f : ∀ a j, 11 ≤ a ∧ a ≤ 20 → S' a j = S a j) (g : ∀ a j, (137 ≤ a ∧ a ≤ 143 ∧ 12 ≤ j ∨ 144 ≤ a ∧ a ≤ 146 ∧ 5 ≤ j ∨ a = 147 ∧ 6 ≤ j ∨ 148 ≤ a ∧ a ≤ 151 ∧ 1 ≤ j) → T' a j = T a j) : z_Ks S' T' := by
  have fr : ∀ a, 11 ≤ a ∧ a ≤ 20 → S' a = S a := fun a q => funext fun j => f a j q
  obtain ⟨a1, a2, a3, a4, a5, a6, a7, a8, a9, a10, a11, a12, a13, a14, a15⟩ := h
  refine ⟨?_, ?_, fun i hi q => ?_, ?_, ?_, ?_, ?_, ?_, ?_, ?_, ?_, ?_, ?_, ?_, ?_⟩
  · rw [fr 11 (by omega), show (fun i => T' 137 (12 + i)) = fun i => T 137 (12 + i) from funext fun i => g _ _ (by omega)]
    exact a1
  · rw [fr 12 (by omega), show (fun i => T' 138 (12 + i)) = fun i => T 138 (12 + i) from funext fun i => g _ _ (by omega)]
    exact a2
  · rw [g 137 _ (by omega)] at q
    rw [fr 13 (by omega), g 139 _ (by omega)]
    exact a3 i hi q
  · rw [fr 14 (by omega), show (fun i => T' 140 (12 + i)) = fun i => T 140 (12 + i) from funext fun i => g _ _ (by omega)]
    exact a4
  · rw [fr 15 (by omega), show (fun i => T' 141 (12 + i)) = fun i => T 141 (12 + i) from funext fun i => g _ _ (by omega)]
    exact a5
  · rw [fr 16 (by omega), show (fun i => T' 142 (12 + i)) = fun i => T 142 (12 + i) from funext fun i => g _ _ (by omega)]
    exact a6
  · rw [fr 17 (by omega), show (fun i => T' 143 (12 + i)) = fun i => T 143 (12 + i) from funext fun i => g _ _ (by omega)]
    exact a7
  · rw [fr 11 (by omega), show (fun i => T' 144 (5 + i)) = fun i => T 144 (5 + i) from funext fun i => g _ _ (by omega)]
    exact a8
  · rw [fr 18 (by omega), show (fun i => T' 145 (5 + i)) = fun i => T 145 (5 + i) from funext fun i => g _ _ (by omega)]
    exact a9
  · rw [fr 19 (by omega), show (fun i => T' 146 (5 + i)) = fun i => T 146 (5 + i) from funext fun i => g _ _ (by omega)]
    exact a10
  · rw [fr 20 (by omega), show (fun i => T' 147 (6 + i)) = fun i => T 147 (6 + i) from funext fun i => g _ _ (by omega)]
    exact a11
  · rw [fr 11 (by omega), g 148 1 (by omega)]
    exact a12
  · rw [fr 11 (by omega), g 149 1 (by omega)]
    exact a13
  · rw [fr 11 (by omega), g 150 1 (by omega)]
    exact a14
  · rw [fr 11 (by omega), g 151 1 (by omega)]
    exact a15
theorem z_try {c b : Nat} (hc : z_cd c) (hb : z_cd b) {S T : v_Sf} (h : z_Rel c b S T) (h01 : z_B01 T) (m : Int32) : z_Rel c b (g_X0_go c b 21 m (g_X7_copy 21 1 S)) (g_X12_bringsBack (Int32.ofInt 0) (g_X12_go m (g_X12_laysAside (Int32.ofInt 0) T))) := by
  have hcn := z_cdl hc
  have hbn := z_cdl hb
  obtain ⟨⟨nc, hB⟩, hP, hT, ⟨hK1, hK2⟩, hO, h17, h25⟩ := id h
  obtain ⟨a1, a2, a3, a4, a5, a6, a7, a8, a9, a10, a12, a13, a14⟩ := id hB.1
  obtain ⟨p1, p2, p3⟩ := id hP
  obtain ⟨c1, c2, c3⟩ := z_copy (s := 21) (t := 1) (Or.inr (by decide)) S
  obtain ⟨L, eL, l1, l2, l3, ⟨l4, l5, l6, l7⟩, l8⟩ := z_la (ρ := 0) (by decide) T
  have eL' : g_X12_laysAside (Int32.ofInt 0) T = L := eL
  rw [eL']
  have gL : ∀ a j, ¬ (137 ≤ a ∧ a ≤ 151) → L a j = T a j := fun a j q => l8 a j (by omega)
  have rL : ∀ a, ¬ (137 ≤ a ∧ a ≤ 151) → L a = T a := fun a q => funext fun j => gL a j q
  have hBs : z_Bs c 21 nc (g_X7_copy 21 1 S) L := by
    refine ⟨⟨?_, ?_, fun g hg q => ?_, ?_, ?_, ?_, ?_, ?_, ?_, ?_, ?_, ?_, ?_⟩, fun w hw => ?_, ?_, z_LawR_t hB.2.2.2.1 (funext fun j => c1 _ j (by omega)) (funext fun j => c1 _ j (by omega)) (funext fun j => c1 _ j (by omega)) (funext fun j => c1 _ j (by omega)) (funext fun j => c1 _ j (by omega)) (funext fun j => c1 _ j (by omega)) (fun a j q => gL a j (by omega)), ?_⟩
    · exact z_told_c a1 (c3 0 (by omega)) (fun j _ => gL _ _ (by omega))
    · exact z_co_c a2 (fun j hj => c2 1 j (by omega)) (fun j _ => gL _ _ (by omega))
    · rw [gL 116 g (by omega)] at q
      have e1 : g_X7_copy 21 1 S (21 + 2) g = S (1 + 2) g := c2 2 g (by omega)
      rw [e1, gL 118 g (by omega)]
      exact a3 g hg q
    · exact z_co_c a4 (fun j hj => c2 3 j (by omega)) (fun j _ => gL _ _ (by omega))
    · exact z_co_c a5 (fun j hj => c2 4 j (by omega)) (fun j _ => gL _ _ (by omega))
    · exact z_co_c a6 (fun j hj => c2 5 j (by omega)) (fun j _ => gL _ _ (by omega))
    · exact z_co_c a7 (fun j hj => c2 6 j (by omega)) (fun j _ => gL _ _ (by omega))
    · exact z_told_c a8 (c3 7 (by omega)) (fun j _ => gL _ _ (by omega))
    · exact z_co_c a9 (fun j hj => c2 7 j (by omega)) (fun j _ => gL _ _ (by omega))
    · exact z_co_c a10 (fun j hj => c2 8 j (by omega)) (fun j _ => gL _ _ (by omega))
    · rw [c3 11 (by omega), gL 99 60 (by omega)]
      exact a12
    · rw [c3 12 (by omega), gL 99 61 (by omega)]
      exact a13
    · rw [c3 13 (by omega), gL 99 62 (by omega)]
      exact a14
    · rw [show g_X7_copy 21 1 S (33 + 2 * w) = S (33 + 2 * w) from funext fun j => c1 _ j (by omega), show g_X7_copy 21 1 S (33 + 2 * w + 1) = S (33 + 2 * w + 1) from funext fun j => c1 _ j (by omega), rL 127 (by omega), rL 123 (by omega), rL 124 (by omega), rL 125 (by omega), rL 126 (by omega)]
      exact hB.2.1 w hw
    · rw [show g_X7_copy 21 1 S 48 = S 48 from funext fun j => c1 _ j (by omega), rL 132 (by omega)]
      exact hB.2.2.1
    · rw [gL 99 16 (by omega)]
      exact hB.2.2.2.2
  have hPX : z_PX 21 (g_X7_copy 21 1 S) L := by
    refine ⟨z_co_c p1 (fun j hj => c2 9 j (by omega)) (fun j _ => gL _ _ (by omega)), fun w hw => ?_, ?_⟩
    · rw [gL 128 w (by omega), gL 127 w (by omega)]
      exact p2 w hw
    · rw [c3 14 (by omega), gL 99 2 (by omega)]
      exact p3
  obtain ⟨-, -, g3, g4⟩ := z_go_ok hc hb (Or.inr (Or.inr rfl)) hBs hPX m
  generalize g_X0_go c b 21 m (g_X7_copy 21 1 S) = G at g3 ⊢
  generalize g_X12_go m L = H at g4 ⊢
  obtain ⟨X, eX, x1, x2, x3, ⟨x4, x5, x6, x7⟩, x8⟩ := z_bb (ρ := 0) (by decide) H
  have eX' : g_X12_bringsBack (Int32.ofInt 0) H = X := eX
  rw [eX']
  have fG : ∀ a j, ¬ (21 ≤ a ∧ a ≤ 30) → ¬ (a = 51 ∨ a = 75 ∨ a = c + 3 ∨ a = b + 3) → G a j = S a j := fun a j q1 q2 => by rw [g3 a j (by unfold z_mcG z_mcB z_mc; omega), c1 a j (by omega)]
  have hH : ∀ a j, ¬ (a = 99 ∧ (j = 2 ∨ 27 ≤ j ∧ j ≤ 40 ∨ 60 ≤ j ∧ j ≤ 62 ∨ 70 ≤ j ∧ j ≤ 76) ∨ a = 114 ∨ a = 115 ∨ a = 117 ∨ a = 119 ∨ a = 122 ∨ a = 128 ∨ a = 131) → H a j = L a j := fun a j q => g4 a j (by unfold z_mmG z_mmB z_mm; omega)
  have gX : ∀ a j, ¬ (a = 99 ∧ (j = 2 ∨ 27 ≤ j ∧ j ≤ 40 ∨ 60 ≤ j ∧ j ≤ 62 ∨ 70 ≤ j ∧ j ≤ 76) ∨ a = 114 ∨ a = 115 ∨ 116 ≤ a ∧ a ≤ 122 ∨ 128 ≤ a ∧ a ≤ 131 ∨ 137 ≤ a ∧ a ≤ 143 ∧ j < 12 ∨ 144 ≤ a ∧ a ≤ 146 ∧ j < 5 ∨ a = 147 ∧ j < 6 ∨ 148 ≤ a ∧ a ≤ 151 ∧ j = 0) → X a j = T a j := fun a j q => by rw [x8 a j (by omega), hH a j (by omega), l8 a j (by omega)]
  have kk : ∀ g, g < 12 → X 116 g = T 116 g ∧ X 117 g = T 117 g ∧ X 118 g = T 118 g ∧ X 119 g = T 119 g ∧ X 120 g = T 120 g ∧ X 121 g = T 121 g ∧ X 122 g = T 122 g := fun g hg => by
    obtain ⟨b1, b2, b3, b4, b5, b6, b7⟩ := x1 g hg
    obtain ⟨d1, d2, d3, d4, d5, d6, d7⟩ := l1 g hg
    have n01 := z_nar01 (h01.1 g hg)
    refine ⟨?_, ?_, ?_, ?_, ?_, ?_, ?_⟩
    · rw [b1, hH _ _ (by omega), d1, n01, n01]
    · rw [b2, hH _ _ (by omega), d2]
    · rw [b3, hH _ _ (by omega), d3]
    · rw [b4, hH _ _ (by omega), d4]
    · rw [b5, hH _ _ (by omega), d5]
    · rw [b6, hH _ _ (by omega), d6]
    · rw [b7, hH _ _ (by omega), d7]
  have kn : ∀ k, k < 5 → X 129 k = T 129 k ∧ X 130 k = T 130 k ∧ X 131 k = T 131 k := fun k hk => by
    obtain ⟨b1, b2, b3⟩ := x2 k hk
    obtain ⟨d1, d2, d3⟩ := l2 k hk
    have n01 := z_nar01 (h01.2.1 k hk)
    refine ⟨?_, ?_, ?_⟩
    · rw [b1, hH _ _ (by omega), d1, n01, n01]
    · rw [b2, hH _ _ (by omega), d2]
    · rw [b3, hH _ _ (by omega), d3]
  have kp : ∀ w, w < 6 → X 128 w = T 128 w := fun w hw => by
    rw [x3 w hw, hH 127 w (by omega), hH 147 _ (by omega), gL 127 w (by omega), l3 w hw]
    split
    · rename_i q
      rcases p2 w hw with e | e
      · rw [e]
        rfl
      · rw [z_leI2] at q
        omega
    · rfl
  have m1 : X 99 60 = T 99 60 := by rw [x4, hH _ _ (by omega), l4]
  have m2 : X 99 61 = T 99 61 := by rw [x5, hH _ _ (by omega), l5]
  have m3 : X 99 62 = T 99 62 := by rw [x6, hH _ _ (by omega), l6]
  have m4 : X 99 2 = T 99 2 := by rw [x7, hH _ _ (by omega), l7]
  have rG : ∀ a, ¬ (21 ≤ a ∧ a ≤ 30) → ¬ (a = 51 ∨ a = 75 ∨ a = c + 3 ∨ a = b + 3) → G a = S a := fun a q1 q2 => funext fun j => fG a j q1 q2
  have rX : ∀ a, (100 ≤ a ∧ a ≤ 113 ∨ 123 ≤ a ∧ a ≤ 127 ∨ 132 ≤ a ∧ a ≤ 136) → X a = T a := fun a q => funext fun j => gX a j (by omega)
  refine ⟨⟨nc, ⟨?_, ?_, fun g hg q => ?_, ?_, ?_, ?_, ?_, ?_, ?_, ?_, ?_, ?_, ?_⟩, fun w hw => ?_, ?_, z_LawR_t hB.2.2.2.1 (rG _ (by omega) (by omega)) (rG _ (by omega) (by omega)) (rG _ (by omega) (by omega)) (rG _ (by omega) (by omega)) (rG _ (by omega) (by omega)) (rG _ (by omega) (by omega)) (fun a j q => gX a j (by omega)), ?_⟩, ⟨?_, fun w hw => ?_, ?_⟩, z_Tp_f hT (rG _ (by omega) (by omega)) (fG _ _ (by omega) (by omega)) (rX _ (by omega)) (gX _ _ (by omega)), ⟨?_, fun q => ?_⟩, z_Ot_f hO (fun a j q => fG a j (by omega) (by omega)) (fun a j q => gX a j (by omega)), ?_, ?_⟩
  · exact z_told_c a1 (fG _ _ (by omega) (by omega)) (fun j hj => (kk j hj).1)
  · exact z_co_c a2 (fun j hj => fG _ _ (by omega) (by omega)) (fun j hj => (kk j hj).2.1)
  · rw [(kk g hg).1] at q
    rw [fG _ _ (by omega) (by omega), (kk g hg).2.2.1]
    exact a3 g hg q
  · exact z_co_c a4 (fun j hj => fG _ _ (by omega) (by omega)) (fun j hj => (kk j hj).2.2.2.1)
  · exact z_co_c a5 (fun j hj => fG _ _ (by omega) (by omega)) (fun j hj => (kk j hj).2.2.2.2.1)
  · exact z_co_c a6 (fun j hj => fG _ _ (by omega) (by omega)) (fun j hj => (kk j hj).2.2.2.2.2.1)
  · exact z_co_c a7 (fun j hj => fG _ _ (by omega) (by omega)) (fun j hj => (kk j hj).2.2.2.2.2.2)
  · exact z_told_c a8 (fG _ _ (by omega) (by omega)) (fun j hj => (kn j hj).1)
  · exact z_co_c a9 (fun j hj => fG _ _ (by omega) (by omega)) (fun j hj => (kn j hj).2.1)
  · exact z_co_c a10 (fun j hj => fG _ _ (by omega) (by omega)) (fun j hj => (kn j hj).2.2)
  · rw [fG 1 11 (by omega) (by omega), m1]
    exact a12
  · rw [fG 1 12 (by omega) (by omega), m2]
    exact a13
  · rw [fG 1 13 (by omega) (by omega), m3]
    exact a14
  · rw [rG (33 + 2 * w) (by omega) (by omega), rG (33 + 2 * w + 1) (by omega) (by omega), rX 127 (by omega), rX 123 (by omega), rX 124 (by omega), rX 125 (by omega), rX 126 (by omega)]
    exact hB.2.1 w hw
  · rw [rG 48 (by omega) (by omega), rX 132 (by omega)]
    exact hB.2.2.1
  · rw [gX 99 16 (by omega)]
    exact hB.2.2.2.2
  · exact z_co_c p1 (fun j hj => fG _ _ (by omega) (by omega)) (fun j hj => kp j hj)
  · rw [kp w hw, rX 127 (by omega)]
    exact p2 w hw
  · rw [fG 1 14 (by omega) (by omega), m4]
    exact p3
  · rw [fG 0 14 (by omega) (by omega), gX 99 92 (by omega)]
    exact hK1
  · rw [gX 99 92 (by omega)] at q
    exact z_Ks_f2 (hK2 q) (fun a j q => fG a j (by omega) (by omega)) (fun a j q => gX a j (by omega))
  · rw [fG b 7 (by omega) (by omega), gX 99 17 (by omega)]
    exact h17
  · rw [gX 99 25 (by omega)]
    exact h25
theorem z_tried_rel {c b : Nat} (hc : z_cd c) (hb : z_cd b) {S T : v_Sf} (h : z_Rel c b S T) (h01 : z_B01 T) (m x : Int32) : z_Rel c b (g_X11_tried c b m x S) (g_X12_tried m x T) := by
  obtain ⟨⟨nc, hB⟩, _⟩ := id h
  have et := z_told_eq hB.1 (x - Int32.ofInt 10)
  have key := z_try hc hb h h01 m
  unfold g_X11_tried g_X12_tried
  rw [et]
  by_cases r : 1 ≤ m.toInt ∧ m.toInt ≤ 60
  · have q1 : ¬ m < Int32.ofInt 1 := by
      rw [z_ltI2, show (Int32.ofInt 1).toInt = 1 from rfl]
      omega
    have q2 : ¬ Int32.ofInt 60 < m := by
      rw [z_ltI2, show (Int32.ofInt 60).toInt = 60 from rfl]
      omega
    have q3 : ¬ z_in m 1 60 = 0 := fun n => z_in0.mp n r
    rw [if_neg q1, if_neg q2, if_neg q3]
    by_cases r2 : 0 ≤ x.toInt ∧ x.toInt ≤ 6
    · rw [if_pos (fun n => z_within.mp n r2), if_pos (fun n => z_in0.mp n r2)]
      exact key
    · rw [if_neg (not_not_intro (z_within.mpr r2)), if_neg (not_not_intro (z_in0.mpr r2))]
      by_cases t : f_X12_isTold (x - Int32.ofInt 10) T = 0
      · rw [if_neg (not_not_intro t), if_neg (not_not_intro t)]
        exact h
      · rw [if_pos t, if_pos t]
        exact key
  · have q3 : z_in m 1 60 = 0 := z_in0.mpr r
    rw [if_pos q3]
    by_cases q1 : m < Int32.ofInt 1
    · rw [if_pos q1]
      exact h
    · have q2 : Int32.ofInt 60 < m := by
        rw [z_ltI2, show (Int32.ofInt 1).toInt = 1 from rfl] at q1
        rw [z_ltI2, show (Int32.ofInt 60).toInt = 60 from rfl]
        omega
      rw [if_neg q1, if_pos q2]
      exact h
