/-! months, law, rules: the calls -/
noncomputable def z_B3 (s : Nat) (S T : v_Sf) : Prop := z_St s S T ∧ z_Wa S T ∧ z_co 10 (S 48) (T 132) 0 1023
theorem z_B3_f {s : Nat} {S T S' T' : v_Sf} (h : z_B3 s S T) (f : ∀ a, (s < a ∧ a ≤ s + 8 ∨ 33 ≤ a ∧ a ≤ 44 ∨ a = 48) → S' a = S a) (fs : ∀ j, (j = 0 ∨ j = 7 ∨ j = 11 ∨ j = 12 ∨ j = 13) → S' s j = S s j) (g : ∀ a j, (a = 99 ∧ (j = 60 ∨ j = 61 ∨ j = 62) ∨ 116 ≤ a ∧ a ≤ 132 ∧ a ≠ 128) → T' a j = T a j) : z_B3 s S' T' := by
  obtain ⟨⟨a1, a2, a3, a4, a5, a6, a7, a8, a9, a10, a12, a13, a14⟩, b1, b3⟩ := h
  have gr : ∀ a, (116 ≤ a ∧ a ≤ 132 ∧ a ≠ 128) → T' a = T a := fun a q => funext (fun j => g a j (by omega))
  have g99 : ∀ j, (j = 60 ∨ j = 61 ∨ j = 62) → T' 99 j = T 99 j := fun j q => g 99 j (by omega)
  refine ⟨⟨?_, ?_, ?_, ?_, ?_, ?_, ?_, ?_, ?_, ?_, ?_, ?_, ?_⟩, ?_, ?_⟩
  · rw [fs 0 (by omega), gr 116 (by omega)]
    exact a1
  · rw [f (s + 1) (by omega), gr 117 (by omega)]
    exact a2
  · rw [f (s + 2) (by omega), gr 116 (by omega), gr 118 (by omega)]
    exact a3
  · rw [f (s + 3) (by omega), gr 119 (by omega)]
    exact a4
  · rw [f (s + 4) (by omega), gr 120 (by omega)]
    exact a5
  · rw [f (s + 5) (by omega), gr 121 (by omega)]
    exact a6
  · rw [f (s + 6) (by omega), gr 122 (by omega)]
    exact a7
  · rw [fs 7 (by omega), gr 129 (by omega)]
    exact a8
  · rw [f (s + 7) (by omega), gr 130 (by omega)]
    exact a9
  · rw [f (s + 8) (by omega), gr 131 (by omega)]
    exact a10
  · rw [fs 11 (by omega), g99 60 (by omega)]
    exact a12
  · rw [fs 12 (by omega), g99 61 (by omega)]
    exact a13
  · rw [fs 13 (by omega), g99 62 (by omega)]
    exact a14
  · intro w hw
    rw [f (33 + 2 * w) (by omega), f (33 + 2 * w + 1) (by omega), gr 127 (by omega), gr 123 (by omega), gr 124 (by omega), gr 125 (by omega), gr 126 (by omega)]
    exact b1 w hw
  · rw [f 48 (by omega), gr 132 (by omega)]
    exact b3
theorem z_by_T {S T : v_Sf} (h : z_Tp S T) : z_by (S 46) := by
  intro i hi
  rw [(h.1 i hi).1]
  have e : (T 100 i &&& Int32.ofInt 255).toBitVec.toNat ≤ 255 := by
    rw [Int32.toBitVec_and, BitVec.toNat_and]
    exact Nat.and_le_right
  have := z_ofT (x := T 100 i &&& Int32.ofInt 255) (by omega)
  omega
theorem z_mons_rel {c b : Nat} (hc : z_cd c) (hb : z_cd b) {S T : v_Sf} (h : z_Rel c b S T) (m : Int32) : f_X11_months c b m S = f_X12_months m T ∧ z_Rel c b (g_X11_months c b m S) (g_X12_months m T) := by
  have hcn := z_cdl hc
  have hbn := z_cdl hb
  obtain ⟨⟨nc, hB⟩, hP, hT, _⟩ := id h
  obtain ⟨e1, ⟨e2, e3⟩, f1, f2⟩ := z_months_ok hc hb hB hP m
  refine ⟨e1, z_Rel_f h ⟨nc, e2⟩ e3 (z_Tp_f hT ?_ ?_ ?_ ?_) (fun a j q => ?_) (fun a j q => ?_)⟩
  · exact funext fun j => f1 _ _ (by unfold z_mcG z_mcB z_mc; omega)
  · exact f1 _ _ (by unfold z_mcG z_mcB z_mc; omega)
  · exact funext fun j => f2 _ _ (by unfold z_mmG z_mmB z_mm; omega)
  · exact f2 _ _ (by unfold z_mmG z_mmB z_mm; omega)
  · exact f1 _ _ (by unfold z_mcG z_mcB z_mc; omega)
  · exact f2 _ _ (by unfold z_mmG z_mmB z_mm; omega)
/-- what a text's reading leaves of the relation -/
theorem z_text_rel {c b e c' b' : Nat} (hc : z_cd c) (hb : z_cd b) (he : z_cd e) {S T S' T' : v_Sf} (h : z_Rel c b S T) (f : ∀ a j, ¬ z_rc e a → ¬ (a = 45 ∧ j = 1) → S' a j = S a j) (f45 : S' 45 1 = 0) (g : ∀ a j, ¬ (a = 99 ∧ (j = 1 ∨ j = 3 ∨ j = 4 ∨ j = 5 ∨ j = 6 ∨ j = 7 ∨ j = 8 ∨ j = 9 ∨ j = 16 ∨ j = 17 ∨ j = 24 ∨ j = 25)) → ¬ (101 ≤ a ∧ a ≤ 113) → T' a j = T a j) (g1 : T' 99 1 = 0) (g25 : T' 99 25 = 0) (hL : ∃ nc, z_LawR c' S' T' nc ∧ T' 99 16 = z_i nc) (h17 : S' b' 7 = T' 99 17) : z_Rel c' b' S' T' := by
  have hcn := z_cdl hc
  have hbn := z_cdl hb
  have hen := z_cdl he
  obtain ⟨⟨nc, hB⟩, hP, hT, ⟨k1, k2⟩, h5, h6, h7⟩ := h
  obtain ⟨nc', l1, l2⟩ := hL
  have b3 : z_B3 1 S' T' := z_B3_f ⟨hB.1, hB.2.1, hB.2.2.1⟩ (fun a q => funext fun j => f a j (by unfold z_rc; omega) (by omega)) (fun j q => f 1 j (by unfold z_rc; omega) (by omega)) (fun a j q => g a j (by omega) (by omega))
  refine ⟨⟨nc', b3.1, b3.2.1, b3.2.2, l1, l2⟩, z_PX_f hP (funext fun j => f _ j (by unfold z_rc; omega) (by omega)) (f _ _ (by unfold z_rc; omega) (by omega)) (funext fun j => g _ _ (by omega) (by omega)) (funext fun j => g _ _ (by omega) (by omega)) (g _ _ (by omega) (by omega)), z_Tp_0 hT (funext fun j => f _ j (by unfold z_rc; omega) (by omega)) f45 (funext fun j => g _ _ (by omega) (by omega)) g1, ⟨?_, fun q => ?_⟩, z_Ot_f h5 (fun a j q => f a j (by unfold z_rc; omega) (by omega)) (fun a j q => g a j (by omega) (by omega)), h17, g25⟩
  · rw [f 0 14 (by unfold z_rc; omega) (by omega), g 99 92 (by omega) (by omega)]
    exact k1
  · rw [g 99 92 (by omega) (by omega)] at q
    exact z_Ks_f (k2 q) (fun a j q => f a j (by unfold z_rc; omega) (by omega)) (fun a j q => g a j (by omega) (by omega))
theorem z_pos {n : Nat} (h : 1 ≤ n) (h2 : n ≤ 1000) : ¬ z_i n < 0 ∧ ¬ z_i n ≤ 0 := by
  rw [show (0 : Int32) = z_i 0 from rfl, z_ilt (by omega) (by omega), z_ile (by omega) (by omega)]
  omega
theorem z_law_rel {c b e : Nat} (hc : z_cd c) (hb : z_cd b) (he : z_cd e) (hec : e ≠ c) (heb : e ≠ b) {S T : v_Sf} (h : z_Rel c b S T) (a : Int32) : f_X11_law c e a S = f_X12_law a T ∧ (f_X11_law c e a S ≤ 0 → z_Rel c b (g_X11_law c e a S) (g_X12_law a T)) ∧ (¬ f_X11_law c e a S ≤ 0 → z_Rel e b (g_X11_law c e a S) (g_X12_law a T)) := by
  have hcn := z_cdl hc
  have hbn := z_cdl hb
  have hen := z_cdl he
  obtain ⟨⟨nc, hB⟩, hP, hT, hK, hO, h17, h25⟩ := id h
  have m1 : Int32.ofInt (-1) ≤ 0 := by decide
  unfold f_X11_law g_X11_law f_X12_law g_X12_law
  by_cases r : (1 ≤ a.toInt ∧ a.toInt ≤ 240) ∧ a ≤ T 99 1
  · obtain ⟨n, hn, rfl⟩ : ∃ n, (1 ≤ n ∧ n ≤ 240) ∧ a = z_i n := ⟨a.toInt.toNat, by omega, (z_ofN (by omega)).symm⟩
    have e1 : ¬ z_i n < Int32.ofInt 1 := by
      rw [show Int32.ofInt 1 = z_i 1 from rfl, z_ilt (by omega) (by omega)]
      omega
    have e2 : ¬ Int32.ofInt 240 < z_i n := by
      rw [show Int32.ofInt 240 = z_i 240 from rfl, z_ilt (by omega) (by omega)]
      omega
    have e3 : z_i n ≤ S 45 1 := by
      rw [hT.2.1]
      exact r.2
    have e4 : ¬ z_in (z_i n) 1 240 = 0 := fun m => z_in0.mp m r.1
    simp only [if_neg e1, if_neg e2, if_pos e3, if_neg e4, if_pos r.2, ite_self]
    have fS : ∀ x j, ¬ z_rc e x → ¬ (x = 45 ∧ j = 1) → g_X8_empty (g_X5_readText e (z_i n) (Int32.ofInt 1) S) x j = S x j := fun x j q1 q2 => by
      unfold g_X8_empty
      rw [z_sn q2, z_rd_text (e := e) _ _ S x q1]
    have f45 : g_X8_empty (g_X5_readText e (z_i n) (Int32.ofInt 1) S) 45 1 = 0 := by
      unfold g_X8_empty
      rw [z_ss]
      rfl
    have r45 : ∀ x j, x ≠ 45 → g_X8_empty (g_X5_readText e (z_i n) (Int32.ofInt 1) S) x j = g_X5_readText e (z_i n) (Int32.ofInt 1) S x j := fun x j q => z_sn (fun m => q m.1)
    have rb : S b 7 = g_X8_empty (g_X5_readText e (z_i n) (Int32.ofInt 1) S) b 7 := (fS b 7 (by unfold z_rc; omega) (by omega)).symm
    rcases z_law_ok he (z_by_T hT) (S := S) (T := T) (n := n) (fun i _ => rfl) (fun i hi => (hT.1 i hi).1.symm) hn.2 e3 h25 with ⟨g1, g2, g3, g4, g5⟩ | ⟨k, k1, k2, k3, k4, k5, k6, k7, k8⟩
    · have g1' : f_X12_takesText (z_i n) (Int32.ofInt 0) T < 0 := by
        rw [g2]
        exact g1
      have le : f_X5_readText e (z_i n) (Int32.ofInt 1) S ≤ 0 := by
        rw [z_leI2]
        have := z_ltI2.mp g1
        omega
      simp only [if_pos g1']
      refine ⟨g2.symm, fun _ => ?_, fun q => absurd le q⟩
      refine z_text_rel hc hb he h fS f45 (fun x j q1 q2 => g3 x j (by omega) (by omega)) g5 g4 ⟨nc, z_LawR_t hB.2.2.2.1 (funext fun j => fS _ j (by unfold z_rc; omega) (by omega)) (funext fun j => fS _ j (by unfold z_rc; omega) (by omega)) (funext fun j => fS _ j (by unfold z_rc; omega) (by omega)) (funext fun j => fS _ j (by unfold z_rc; omega) (by omega)) (funext fun j => fS _ j (by unfold z_rc; omega) (by omega)) (funext fun j => fS _ j (by unfold z_rc; omega) (by omega)) (fun x j q => g3 x j (by omega) (by omega)), ?_⟩ ?_
      · rw [g3 99 16 (by omega) (by omega)]
        exact hB.2.2.2.2
      · rw [← rb, g3 99 17 (by omega) (by omega)]
        exact h17
    · have np := z_pos k1 (by omega)
      rw [k3, k4]
      simp only [if_neg np.1]
      refine ⟨trivial, fun q => absurd q np.2, fun _ => ?_⟩
      refine z_text_rel hc hb he h fS f45 (fun x j q1 q2 => by rw [z_sn (by omega)]; exact k6 x j (by omega) (by omega) (by omega) (by omega)) (by rw [z_sn (by omega)]; exact k8) (by rw [z_sn (by omega)]; exact k7) ⟨k, z_LawR_t k5 (funext fun j => r45 _ j (by omega)) (funext fun j => r45 _ j (by omega)) (funext fun j => r45 _ j (by omega)) (funext fun j => r45 _ j (by omega)) (funext fun j => r45 _ j (by omega)) (funext fun j => r45 _ j (by omega)) (fun x j q => z_sn (by omega)), z_ss⟩ ?_
      rw [← rb, z_sn (by omega), k6 99 17 (by omega) (by omega) (by omega) (by omega)]
      exact h17
  · have eC : (if a < Int32.ofInt 1 then S else (if Int32.ofInt 240 < a then S else (if a ≤ S 45 1 then g_X8_empty (g_X5_readText e a (Int32.ofInt 1) S) else S))) = S ∧ (if a < Int32.ofInt 1 then Int32.ofInt (-1) else (if Int32.ofInt 240 < a then Int32.ofInt (-1) else (if a ≤ S 45 1 then (if f_X5_readText e a (Int32.ofInt 1) S ≤ 0 then f_X5_readText e a (Int32.ofInt 1) S else f_X5_readText e a (Int32.ofInt 1) S) else Int32.ofInt (-1)))) = Int32.ofInt (-1) := by
      by_cases q1 : a < Int32.ofInt 1
      · simp only [if_pos q1]
        exact ⟨trivial, trivial⟩
      · by_cases q2 : Int32.ofInt 240 < a
        · simp only [if_neg q1, if_pos q2]
          exact ⟨trivial, trivial⟩
        · have q3 : ¬ a ≤ S 45 1 := by
            intro m
            rw [hT.2.1] at m
            rw [z_ltI2, show (Int32.ofInt 1).toInt = 1 from rfl] at q1
            rw [z_ltI2, show (Int32.ofInt 240).toInt = 240 from rfl] at q2
            exact r ⟨⟨by omega, by omega⟩, m⟩
          simp only [if_neg q1, if_neg q2, if_neg q3]
          exact ⟨trivial, trivial⟩
    rw [eC.1, eC.2]
    by_cases q : z_in a 1 240 = 0
    · simp only [if_pos q]
      exact ⟨trivial, fun _ => h, fun m => absurd m1 m⟩
    · have q3 : ¬ a ≤ T 99 1 := by
        intro m
        refine r ⟨?_, m⟩
        exact Classical.byContradiction (fun z => q (z_in0.mpr z))
      simp only [if_neg q, if_neg q3]
      exact ⟨trivial, fun _ => h, fun m => absurd m1 m⟩
