/-! plain calls: both sides -/
theorem z_Bs_f {c s nc : Nat} {S T S' T' : v_Sf} (h : z_Bs c s nc S T) (f : ∀ a, (s < a ∧ a ≤ s + 8 ∨ 33 ≤ a ∧ a ≤ 44 ∨ a = 48 ∨ c ≤ a ∧ a ≤ c + 6 ∧ a ≠ c + 3) → S' a = S a) (fs : ∀ j, (j = 0 ∨ j = 7 ∨ j = 11 ∨ j = 12 ∨ j = 13) → S' s j = S s j) (g : ∀ a j, (a = 99 ∧ (j = 16 ∨ j = 60 ∨ j = 61 ∨ j = 62) ∨ 101 ≤ a ∧ a ≤ 106 ∨ 116 ≤ a ∧ a ≤ 132 ∧ a ≠ 128) → T' a j = T a j) : z_Bs c s nc S' T' := by
  obtain ⟨⟨a1, a2, a3, a4, a5, a6, a7, a8, a9, a10, a12, a13, a14⟩, b1, b3, b4, b5⟩ := h
  have gr : ∀ a, (101 ≤ a ∧ a ≤ 106 ∨ 116 ≤ a ∧ a ≤ 132 ∧ a ≠ 128) → T' a = T a := fun a q => funext (fun j => g a j (by omega))
  have g99 : ∀ j, (j = 16 ∨ j = 60 ∨ j = 61 ∨ j = 62) → T' 99 j = T 99 j := fun j q => g 99 j (by omega)
  refine ⟨⟨?_, ?_, ?_, ?_, ?_, ?_, ?_, ?_, ?_, ?_, ?_, ?_, ?_⟩, ?_, ?_, ?_, ?_⟩
  · rw [fs 0 (by omega), gr 116 (by omega)]
    exact a1
  · rw [f (s + 1) (by omega), gr 117 (by omega)]
    exact a2
  · rw [f (s + 2) (by omega), gr 116 (by omega), gr 118 (by omega)]
    exact a3
  · rw [f (s + 3) (by omega), gr 119 (by omega)]
    exact a4
  · rw [f (s + 4) (by omega), gr 120 (by omega)]
    exact a5
  · rw [f (s + 5) (by omega), gr 121 (by omega)]
    exact a6
  · rw [f (s + 6) (by omega), gr 122 (by omega)]
    exact a7
  · rw [fs 7 (by omega), gr 129 (by omega)]
    exact a8
  · rw [f (s + 7) (by omega), gr 130 (by omega)]
    exact a9
  · rw [f (s + 8) (by omega), gr 131 (by omega)]
    exact a10
  · rw [fs 11 (by omega), g99 60 (by omega)]
    exact a12
  · rw [fs 12 (by omega), g99 61 (by omega)]
    exact a13
  · rw [fs 13 (by omega), g99 62 (by omega)]
    exact a14
  · intro w hw
    rw [f (33 + 2 * w) (by omega), f (33 + 2 * w + 1) (by omega), gr 127 (by omega), gr 123 (by omega), gr 124 (by omega), gr 125 (by omega), gr 126 (by omega)]
    exact b1 w hw
  · rw [f 48 (by omega), gr 132 (by omega)]
    exact b3
  · exact z_LawR_t b4 (f _ (by omega)) (f _ (by omega)) (f _ (by omega)) (f _ (by omega)) (f _ (by omega)) (f _ (by omega)) (fun a j q => g a j (by omega))
  · rw [g99 16 (by omega)]
    exact b5
theorem z_Bs_st {c nc : Nat} (hc : z_cd c) {S T S' T' : v_Sf} (h : z_Bs c 1 nc S T) (h1 : z_St 1 S' T') (f : ∀ a, (33 ≤ a ∧ a ≤ 44 ∨ a = 48 ∨ c ≤ a ∧ a ≤ c + 6 ∧ a ≠ c + 3) → S' a = S a) (g : ∀ a j, (a = 99 ∧ j = 16 ∨ 101 ≤ a ∧ a ≤ 106 ∨ 123 ≤ a ∧ a ≤ 127 ∨ a = 132) → T' a j = T a j) : z_Bs c 1 nc S' T' := by
  obtain ⟨_, b1, b3, b4, b5⟩ := h
  have gr : ∀ a, (101 ≤ a ∧ a ≤ 106 ∨ 123 ≤ a ∧ a ≤ 127 ∨ a = 132) → T' a = T a := fun a q => funext fun j => g a j (by omega)
  refine ⟨h1, fun w hw => ?_, ?_, z_LawR_t b4 (f _ (by omega)) (f _ (by omega)) (f _ (by omega)) (f _ (by omega)) (f _ (by omega)) (f _ (by omega)) (fun a j q => g a j (by omega)), ?_⟩
  · rw [f (33 + 2 * w) (by omega), f (33 + 2 * w + 1) (by omega), gr 127 (by omega), gr 123 (by omega), gr 124 (by omega), gr 125 (by omega), gr 126 (by omega)]
    exact b1 w hw
  · rw [f 48 (by omega), gr 132 (by omega)]
    exact b3
  · rw [g 99 16 (by omega)]
    exact b5
theorem z_seed_ok {c b : Nat} (hc : z_cd c) (hb : z_cd b) {S T : v_Sf} (h : z_Rel c b S T) (x : Int32) : f_X11_seed x S = f_X12_seed x T ∧ z_Rel c b (g_X11_seed x S) (g_X12_seed x T) := by
  have hcn := z_cdl hc
  have hbn := z_cdl hb
  unfold f_X11_seed g_X11_seed f_X12_seed g_X12_seed
  by_cases q : 0 ≤ x.toInt ∧ x.toInt ≤ 65535
  · have n1 : ¬ f_X11_within x (Int32.ofInt 65535) = 0 := fun m => z_within.mp m q
    have n2 : ¬ z_in x 0 65535 = 0 := fun m => z_in0.mp m q
    simp only [if_pos n1, if_pos n2]
    obtain ⟨⟨nc, hB⟩, hP, hT, _⟩ := id h
    refine ⟨trivial, z_Rel_f h ⟨nc, z_Bs_f hB (fun a q => z_sr (by omega)) (fun j q => z_sn (by omega)) (fun a j q => z_sn (by omega))⟩ ⟨?_, ?_, ?_⟩ (z_Tp_f hT (z_sr (by decide)) (z_sn (by omega)) (z_sr (by decide)) (z_sn (by omega))) (fun a j q => z_sn (by omega)) (fun a j q => z_sn (by omega))⟩
    · rw [z_sr (show (1 + 9 : Nat) ≠ 1 by decide), z_sr (show (128 : Nat) ≠ 99 by decide)]
      exact hP.1
    · intro w hw
      rw [z_sr (show (128 : Nat) ≠ 99 by decide), z_sr (show (127 : Nat) ≠ 99 by decide)]
      exact hP.2.1 w hw
    · rw [z_ss, z_ss]
      exact ⟨rfl, q⟩
  · have n1 : ¬ ¬ f_X11_within x (Int32.ofInt 65535) = 0 := fun m => m (z_within.mpr q)
    have n2 : ¬ ¬ z_in x 0 65535 = 0 := fun m => m (z_in0.mpr q)
    simp only [if_neg n1, if_neg n2]
    exact ⟨trivial, h⟩
theorem z_told_eq {S T : v_Sf} (h : z_St 1 S T) (g : Int32) : f_X7_hasGust 1 g S = f_X12_isTold g T := by
  by_cases q : 0 ≤ g.toInt ∧ g.toInt ≤ 11
  · obtain ⟨k, hk, rfl⟩ : ∃ k, k < 12 ∧ g = z_i k := ⟨g.toInt.toNat, by omega, (z_ofN q.1).symm⟩
    have e := z_hasG2 (s := 1) h hk
    have ek : (z_i k).toInt.toNat = k := z_iin (by omega)
    unfold f_X12_isTold
    rw [if_neg (fun m => z_in0.mp m q), ek]
    by_cases t : T 116 k = 0
    · rw [if_pos t]
      exact e.mpr t
    · rw [if_neg t]
      have n := fun m => t (e.mp m)
      unfold f_X7_hasGust at n ⊢
      split
      · rename_i r
        exact absurd r (by rw [z_ltI2]; have e0 : (0 : Int32).toInt = 0 := rfl; omega)
      · split
        · rename_i r
          exact absurd r (by rw [z_leI2]; have e0 : (Int32.ofInt 12).toInt = 12 := rfl; omega)
        · split
          · rename_i r1 r2 r3
            rw [if_neg r1, if_neg r2, if_pos r3] at n
            exact absurd rfl n
          · rfl
  · unfold f_X12_isTold
    rw [if_pos (z_in0.mpr q)]
    unfold f_X7_hasGust
    split
    · rfl
    · split
      · rfl
      · rename_i r1 r2
        have e0 : (0 : Int32).toInt = 0 := rfl
        have e12 : (Int32.ofInt 12).toInt = 12 := rfl
        rw [z_ltI2] at r1
        rw [z_leI2] at r2
        exact absurd ⟨by omega, by omega⟩ q
theorem z_name_ok {c b : Nat} (hc : z_cd c) (hb : z_cd b) {S T : v_Sf} (h : z_Rel c b S T) (g q : Int32) : f_X11_name g q S = f_X12_name g q T ∧ z_Rel c b (g_X11_name g q S) (g_X12_name g q T) := by
  have hcn := z_cdl hc
  have hbn := z_cdl hb
  obtain ⟨⟨nc, hB⟩, hP, hT, _⟩ := id h
  have et := z_told_eq hB.1 g
  unfold f_X11_name g_X11_name f_X12_name g_X12_name
  rw [et]
  by_cases t : f_X12_isTold g T = 0
  · simp only [if_pos t]
    exact ⟨trivial, h⟩
  · simp only [if_neg t]
    by_cases r : 0 ≤ q.toInt ∧ q.toInt ≤ 7
    · have n1 : ¬ f_X11_within q (Int32.ofInt 7) = 0 := fun m => z_within.mp m r
      have n2 : ¬ z_in q 0 7 = 0 := fun m => z_in0.mp m r
      simp only [if_pos n1, if_pos n2]
      obtain ⟨a1, a2, a3, a4, a5, a6, a7, a8, a9, a10, a12, a13, a14⟩ := id hB.1
      have hS : z_St 1 (z_s S 3 g.toInt.toNat q) (z_s T 118 g.toInt.toNat q) := by
        refine ⟨?_, ?_, fun k hk m => ?_, ?_, ?_, ?_, ?_, ?_, ?_, ?_, ?_, ?_, ?_⟩
        · rw [z_sn (by omega), z_sr (by decide)]
          exact a1
        · rw [z_sr (by decide), z_sr (by decide)]
          exact a2
        · rw [z_sr (show (116 : Nat) ≠ 118 by decide)] at m
          by_cases e : k = g.toInt.toNat
          · rw [e, show (1 + 2 : Nat) = 3 from rfl, z_ss, z_ss]
            exact Or.inr ⟨rfl, r⟩
          · rw [z_sn (by omega), z_sn (by omega)]
            exact a3 k hk m
        · rw [z_sr (by decide), z_sr (by decide)]
          exact a4
        · rw [z_sr (by decide), z_sr (by decide)]
          exact a5
        · rw [z_sr (by decide), z_sr (by decide)]
          exact a6
        · rw [z_sr (by decide), z_sr (by decide)]
          exact a7
        · rw [z_sn (by omega), z_sr (by decide)]
          exact a8
        · rw [z_sr (by decide), z_sr (by decide)]
          exact a9
        · rw [z_sr (by decide), z_sr (by decide)]
          exact a10
        · rw [z_sn (by omega), z_sn (by omega)]
          exact a12
        · rw [z_sn (by omega), z_sn (by omega)]
          exact a13
        · rw [z_sn (by omega), z_sn (by omega)]
          exact a14
      exact ⟨trivial, z_Rel_f h ⟨nc, z_Bs_st hc hB hS (fun a m => z_sr (by omega)) (fun a j m => z_sn (by omega))⟩ (z_PX_f hP (z_sr (by decide)) (z_sn (by omega)) (z_sr (by decide)) (z_sr (by decide)) (z_sn (by omega))) (z_Tp_f hT (z_sr (by decide)) (z_sn (by omega)) (z_sr (by decide)) (z_sn (by omega))) (fun a j m => z_sn (by omega)) (fun a j m => z_sn (by omega))⟩
    · have n1 : ¬ ¬ f_X11_within q (Int32.ofInt 7) = 0 := fun m => m (z_within.mpr r)
      have n2 : ¬ ¬ z_in q 0 7 = 0 := fun m => m (z_in0.mpr r)
      simp only [if_neg n1, if_neg n2]
      exact ⟨trivial, h⟩
theorem z_needs_ok {c b : Nat} (hc : z_cd c) (hb : z_cd b) {S T : v_Sf} (h : z_Rel c b S T) (l q : Int32) : f_X11_needs l q S = f_X12_needs l q T ∧ z_Rel c b (g_X11_needs l q S) (g_X12_needs l q T) := by
  have hcn := z_cdl hc
  have hbn := z_cdl hb
  obtain ⟨⟨nc, hB⟩, hP, hT, _⟩ := id h
  unfold f_X11_needs g_X11_needs f_X12_needs g_X12_needs f_X12_areHabits
  by_cases r1 : 0 ≤ l.toInt ∧ l.toInt ≤ 9
  · have n1 : ¬ f_X11_within l (Int32.ofInt 9) = 0 := fun m => z_within.mp m r1
    have n2 : ¬ z_in l 0 9 = 0 := fun m => z_in0.mp m r1
    simp only [if_neg n1, if_neg n2]
    by_cases r2 : 0 ≤ q.toInt ∧ q.toInt ≤ 1023
    · have n3 : ¬ f_X11_within q (Int32.ofInt 1023) = 0 := fun m => z_within.mp m r2
      have n4 : ¬ z_in q 0 1023 = 0 := fun m => z_in0.mp m r2
      simp only [if_neg n3, if_neg n4]
      have hx : (f_X12_has q l = 0) ↔ ((q >>> (l &&& 31)) &&& Int32.ofInt 1 = 0) := by
        unfold f_X12_has
        rcases z_and1 (q >>> (l &&& 31)) with e | e
        · rw [e]
          exact ⟨fun _ => rfl, fun _ => by decide⟩
        · rw [e]
          exact ⟨fun m => absurd m (by decide), fun m => absurd m (by decide)⟩
      by_cases r3 : (q >>> (l &&& 31)) &&& Int32.ofInt 1 = 0
      · simp only [if_pos r3, if_pos (hx.mpr r3)]
        obtain ⟨b0, b1, b3, b4, b5⟩ := id hB
        refine ⟨trivial, z_Rel_f h ⟨nc, ⟨?_, fun w hw => ?_, z_co_u b3 r2, ?_, ?_⟩⟩ (z_PX_f hP (z_sr (by decide)) (z_sn (by omega)) (z_sr (by decide)) (z_sr (by decide)) (z_sn (by omega))) (z_Tp_f hT (z_sr (by decide)) (z_sn (by omega)) (z_sr (by decide)) (z_sn (by omega))) (fun a j m => z_sn (by omega)) (fun a j m => z_sn (by omega))⟩
        · obtain ⟨a1, a2, a3, a4, a5, a6, a7, a8, a9, a10, a12, a13, a14⟩ := b0
          refine ⟨?_, ?_, ?_, ?_, ?_, ?_, ?_, ?_, ?_, ?_, ?_, ?_, ?_⟩
          · rw [z_sr (by decide), z_sr (by decide)]
            exact a1
          · rw [z_sr (by decide), z_sr (by decide)]
            exact a2
          · rw [z_sr (show (1 + 2 : Nat) ≠ 48 by decide), z_sr (show (116 : Nat) ≠ 132 by decide), z_sr (show (118 : Nat) ≠ 132 by decide)]
            exact a3
          · rw [z_sr (by decide), z_sr (by decide)]
            exact a4
          · rw [z_sr (by decide), z_sr (by decide)]
            exact a5
          · rw [z_sr (by decide), z_sr (by decide)]
            exact a6
          · rw [z_sr (by decide), z_sr (by decide)]
            exact a7
          · rw [z_sr (by decide), z_sr (by decide)]
            exact a8
          · rw [z_sr (by decide), z_sr (by decide)]
            exact a9
          · rw [z_sr (by decide), z_sr (by decide)]
            exact a10
          · rw [z_sr (by decide), z_sr (by decide)]
            exact a12
          · rw [z_sr (by decide), z_sr (by decide)]
            exact a13
          · rw [z_sr (by decide), z_sr (by decide)]
            exact a14
        · rw [z_sr (show 33 + 2 * w ≠ 48 by omega), z_sr (show 33 + 2 * w + 1 ≠ 48 by omega), z_sr (show 127 ≠ 132 by decide), z_sr (show 123 ≠ 132 by decide), z_sr (show 124 ≠ 132 by decide), z_sr (show 125 ≠ 132 by decide), z_sr (show 126 ≠ 132 by decide)]
          exact b1 w hw
        · exact z_LawR_t b4 (z_sr (by omega)) (z_sr (by omega)) (z_sr (by omega)) (z_sr (by omega)) (z_sr (by omega)) (z_sr (by omega)) (fun a j m => z_sn (by omega))
        · rw [z_sr (show 99 ≠ 132 by decide)]
          exact b5
      · simp only [if_neg r3, if_neg (fun m => r3 (hx.mp m))]
        exact ⟨trivial, h⟩
    · have n3 : f_X11_within q (Int32.ofInt 1023) = 0 := z_within.mpr r2
      have n4 : z_in q 0 1023 = 0 := z_in0.mpr r2
      simp only [if_pos n3, if_pos n4]
      exact ⟨trivial, h⟩
  · have n1 : f_X11_within l (Int32.ofInt 9) = 0 := z_within.mpr r1
    have n2 : z_in l 0 9 = 0 := z_in0.mpr r1
    simp only [if_pos n1, if_pos n2]
    exact ⟨trivial, h⟩
