/-! what the law gives: both machines -/
theorem z_halt {c : Nat} (hc : z_cd c) {S : v_Sf} {k1 k2 k h : Nat} {D : (Int32 → Int32) → Option Int32} (g : z_segC (S (c + 1)) (S (c + 2)) k1 k2 h D) (hh : h ≤ 32) (h0 : S (c + 1) k2 = 0) (h6 : S c 6 = z_i k) (hk : k2 < k) (hk2 : k ≤ 256) : (D (fun a => f_X1_valueAt a S) = none → f_X1_run c (z_i k1) S = Int32.ofInt 0) ∧ (∀ v, D (fun a => f_X1_valueAt a S) = some v → f_X1_run c (z_i k1) S = v) ∧ ∀ a, a ≠ c + 3 → g_X1_run c (z_i k1) S a = S a := by
  have e := z_run_eq hc S 256 0 0 (z_i k1) S (by omega) (fun _ _ => rfl)
  have e1 : f_X1_run c (z_i k1) S = z_m (S (c + 1)) (S (c + 2)) (fun a => f_X1_valueAt a S) (z_i k) 256 [] (z_i k1) := by
    rw [← h6]
    exact e.1
  have q := g.2 (S (c + 1)) (S (c + 2)) (fun a => f_X1_valueAt a S) k 256 [] (fun _ _ _ => ⟨rfl, rfl⟩) (by omega) hk2 (by simpa using hh) (by omega)
  refine ⟨fun hn => by rw [e1]; exact q.1 hn, fun v hv => ?_, e.2⟩
  obtain ⟨r', hr, e2⟩ := q.2 v hv
  obtain ⟨r, rfl⟩ : ∃ r0, r' = r0 + 1 := ⟨r' - 1, by have := g.1; omega⟩
  rw [e1, e2, z_m_i hk hk2, if_neg (by rw [h0]; decide), if_neg (by rw [h0]; decide)]
  exact if_pos h0
theorem z_works_ok {T : v_Sf} {m1 m2 : Nat} {D : (Int32 → Int32) → Option Int32} (g : z_segM (T 105) (T 106) m1 m2 D) (hm : m2 ≤ 480) {V : Int32 → Int32} (hv : z_vw V (fun a => f_X12_valueOf a T)) : ∃ p : Bool × Int32, z_out (D V) p ∧ g_X12_works (z_i m1) (z_i m2) T 115 0 = p_b p.1 ∧ g_X12_works (z_i m1) (z_i m2) T 114 0 = p.2 ∧ ∀ a, a ≠ 114 → a ≠ 115 → g_X12_works (z_i m1) (z_i m2) T a = T a := by
  obtain ⟨p, hp, e⟩ := g.2 (T 105) (T 106) V (fun a => f_X12_valueOf a T) 0 [] (fun _ _ _ => ⟨rfl, rfl⟩) hv
  have hle := g.1
  have e2 : z_w (T 105) (T 106) (fun a => f_X12_valueOf a T) (m2 - m1) [] m1 = some [p] := by
    have : z_w (T 105) (T 106) (fun a => f_X12_valueOf a T) 0 [p] m2 = some [p] := by rw [z_w]
    rw [← this, ← e]
    rfl
  have w := z_works_eq T (z_i m2) (m2 - m1) [] m1 T [p] trivial (fun _ _ _ => rfl) (by simp; omega) (by omega) e2
  have ew : g_X12_works (z_i m1) (z_i m2) T = r_X12_works_5 (z_i m2) (m2 - m1) (z_i 0) (z_i m1) T := by
    unfold g_X12_works F_X12_works
    rw [z_it3 (by omega), z_it3 (by omega), show (((m2 : Nat) : Int) - ((m1 : Nat) : Int)).toNat = m2 - m1 by omega]
    rfl
  rw [ew]
  exact ⟨p, hp, w.1.1.1, w.1.1.2, w.2⟩
/-- a condition -/
theorem z_so_eq {c : Nat} (hc : z_cd c) {S T : v_Sf} {j k : Nat} (h : z_lwC c S T j k) (h6 : S c 6 = z_i k) (hk : k ≤ 256) (hj : j < 28) (hv : z_vw (fun a => f_X1_valueAt a S) (fun a => f_X12_valueOf a T)) : (f_X1_run c (S (c + 6) j) S = 0 ↔ f_X12_isSo (z_i j) T = 0) ∧ (∀ a, a ≠ c + 3 → g_X1_run c (S (c + 6) j) S a = S a) ∧ ∀ a, a ≠ 114 → a ≠ 115 → g_X12_isSo (z_i j) T a = T a := by
  obtain ⟨k1, k2, m1, m2, D, c1, c2, c3, c4, c5, c6, c7, c8, c9⟩ := h
  have r := z_halt hc c7 (by decide) c6 h6 c4 hk
  obtain ⟨p, p1, p2, p3, p4⟩ := z_works_ok c8 (by omega) hv
  have ej : (z_i j).toInt.toNat = j := z_iin (by omega)
  have eg : g_X12_isSo (z_i j) T = g_X12_works (z_i m1) (z_i m2) T := by
    unfold g_X12_isSo
    rw [ej, c2, c3]
  rw [c1, eg]
  refine ⟨?_, r.2.2, p4⟩
  unfold f_X12_isSo
  rw [ej, c2, c3, p2, p3]
  rcases z_out_n p1 with ⟨q1, q2⟩ | ⟨v, q1, q2⟩
  · have e1 : f_X1_run c (z_i k1) S = 0 := r.1 q1
    rw [q2, if_pos z_pt]
    exact ⟨fun _ => by decide, fun _ => e1⟩
  · have e1 : f_X1_run c (z_i k1) S = v := r.2.1 v q1
    rw [q2, if_neg (not_not_intro z_pf), e1]
    rcases c9 _ v q1 with rfl | rfl
    · rw [if_pos (by decide)]
      exact ⟨fun _ => by decide, fun _ => rfl⟩
    · rw [if_neg (by decide)]
theorem z_hold (most v : Int32) (hm : 0 ≤ most.toInt) : z_max (Int32.ofInt 0) (z_min most v) = f_X12_held v most := by
  have e0 : (0 : Int32).toInt = 0 := rfl
  have e0' : (Int32.ofInt 0).toInt = 0 := rfl
  unfold z_max z_min f_X12_held
  by_cases g1 : v < most
  · have g1' := Int32.lt_iff_toInt_lt.mp g1
    rw [if_pos g1]
    by_cases g2 : Int32.ofInt 0 < v
    · have g2' := Int32.lt_iff_toInt_lt.mp g2
      rw [if_pos g2, if_pos (Int32.le_iff_toInt_le.mpr (by omega)), if_pos (Int32.le_iff_toInt_le.mpr (by omega))]
    · have g2' : ¬ (Int32.ofInt 0).toInt < v.toInt := fun q => g2 (Int32.lt_iff_toInt_lt.mpr q)
      rw [if_neg g2]
      by_cases g3 : 0 ≤ v
      · have g3' := Int32.le_iff_toInt_le.mp g3
        rw [if_pos g3, if_pos (Int32.le_iff_toInt_le.mpr (by omega))]
        exact Int32.toInt_inj.mp (by omega)
      · rw [if_neg g3]
  · have g1' : ¬ v.toInt < most.toInt := fun q => g1 (Int32.lt_iff_toInt_lt.mpr q)
    rw [if_neg g1, if_pos (Int32.le_iff_toInt_le.mpr (by omega))]
    by_cases g4 : v ≤ most
    · have g4' := Int32.le_iff_toInt_le.mp g4
      rw [if_pos g4]
      by_cases g2 : Int32.ofInt 0 < most
      · rw [if_pos g2]
        exact Int32.toInt_inj.mp (by omega)
      · have g2' : ¬ (Int32.ofInt 0).toInt < most.toInt := fun q => g2 (Int32.lt_iff_toInt_lt.mpr q)
        rw [if_neg g2]
        exact Int32.toInt_inj.mp (by omega)
    · rw [if_neg g4]
      by_cases g2 : Int32.ofInt 0 < most
      · rw [if_pos g2]
      · have g2' : ¬ (Int32.ofInt 0).toInt < most.toInt := fun q => g2 (Int32.lt_iff_toInt_lt.mpr q)
        rw [if_neg g2]
        exact Int32.toInt_inj.mp (by omega)
theorem z_vw_t {S S' T T' : v_Sf} (h : z_vw (fun a => f_X1_valueAt a S) (fun a => f_X12_valueOf a T)) (h1 : S' 51 = S 51) (h2 : T' 99 = T 99) : z_vw (fun a => f_X1_valueAt a S') (fun a => f_X12_valueOf a T') := by
  intro ch hc
  have := h ch hc
  show f_X12_valueOf ch T' = f_X1_valueAt (g_ixo ch) S'
  unfold f_X12_valueOf f_X1_valueAt at *
  rw [h1, h2]
  exact this
/-- an amount -/
theorem z_amt_eq {c : Nat} (hc : z_cd c) {S T : v_Sf} {j k : Nat} (h : z_lwA c S T j k) (h6 : S c 6 = z_i k) (hk : k ≤ 256) (hv : z_vw (fun a => f_X1_valueAt a S) (fun a => f_X12_valueOf a T)) (most : Int32) (hm : 0 ≤ most.toInt) : z_max (Int32.ofInt 0) (z_min most (f_X1_run c (S (c + 5) j) S)) = (if (g_X12_works (T 102 j) (T 103 j) T) 115 0 = 0 then f_X12_held ((g_X12_works (T 102 j) (T 103 j) T) 114 0) most else Int32.ofInt 0) ∧ (∀ a, a ≠ c + 3 → g_X1_run c (S (c + 5) j) S a = S a) ∧ ∀ a, a ≠ 114 → a ≠ 115 → g_X12_works (T 102 j) (T 103 j) T a = T a := by
  obtain ⟨k0, k1, m0, m1, D, c1, c2, c3, c4, c5, c6, c7, c8⟩ := h
  have r := z_halt hc c7 (by decide) c6 h6 c4 hk
  obtain ⟨p, p1, p2, p3, p4⟩ := z_works_ok c8 (by omega) hv
  rw [c1, c2, c3]
  refine ⟨?_, r.2.2, p4⟩
  rw [p2, p3]
  rcases z_out_n p1 with ⟨q1, q2⟩ | ⟨v, q1, q2⟩
  · rw [r.1 q1, q2, if_neg z_pt, z_hold _ _ hm]
    unfold f_X12_held
    rw [if_pos (by decide), if_pos (Int32.le_iff_toInt_le.mpr (by rw [show (Int32.ofInt 0).toInt = 0 from rfl]; exact hm))]
  · rw [r.2.1 v q1, q2, if_pos z_pf, z_hold _ _ hm]
theorem z_first_eq {c : Nat} (hc : z_cd c) {L most : Int32} (hL : ¬ z_aln L) (hm : 0 ≤ most.toInt) {nc : Nat} : ∀ (d j r r' : Nat) (S T : v_Sf), j + d = nc → d ≤ r → d ≤ r' → z_LawR c S T nc → T 99 16 = z_i nc → z_vw (fun a => f_X1_valueAt a S) (fun a => f_X12_valueOf a T) → (r_X3_firstAmount_2 c L most r j S).1 = (r_X12_tells_2 L most r' j T).1 ∧ (∀ a, a ≠ c + 3 → (r_X3_firstAmount_2 c L most r j S).2 a = S a) ∧ ∀ a, a ≠ 114 → a ≠ 115 → (r_X12_tells_2 L most r' j T).2 a = T a := by
  have hcl := z_cdl hc
  intro d
  induction d with
  | zero =>
    intro j r r' S T hj hr hr' hR h16 hv
    have e1 : r_X3_firstAmount_2 c L most r j S = (Int32.ofInt 0, S) := by
      cases r with
      | zero => rw [r_X3_firstAmount_2]
      | succ r =>
        rw [r_X3_firstAmount_2, if_pos (by rw [hR.1, z_ile (by have := hR.2.1; omega) (by have := hR.2.1; omega)]; omega)]
    have e2 : r_X12_tells_2 L most r' j T = (Int32.ofInt 0, T) := by
      cases r' with
      | zero => rw [r_X12_tells_2]
      | succ r =>
        rw [r_X12_tells_2, if_pos (by rw [h16, z_ile (by have := hR.2.1; omega) (by have := hR.2.1; omega)]; omega)]
    rw [e1, e2]
    exact ⟨rfl, fun _ _ => rfl, fun _ _ _ => rfl⟩
  | succ d ih =>
    intro j r r' S T hj hr hr' hR h16 hv
    obtain ⟨r, rfl⟩ : ∃ r0, r = r0 + 1 := ⟨r - 1, by omega⟩
    obtain ⟨r', rfl⟩ : ∃ r0, r' = r0 + 1 := ⟨r' - 1, by omega⟩
    have hnc := hR.2.1
    have ej : (z_i j).toInt.toNat = j := z_iin (by omega)
    obtain ⟨k, h6, hk, hcl2⟩ := hR.2.2
    have cl := hcl2 j (by omega)
    have nle : ¬ z_i nc ≤ z_i j := by
      rw [z_ile (by omega) (by omega)]
      omega
    have E1 := r_X3_firstAmount_2.eq_2 c L most j S r
    have E2 := r_X12_tells_2.eq_2 L most j T r'
    rw [hR.1, if_neg nle, ej, cl.1] at E1
    rw [h16, if_neg nle, ej] at E2
    rw [E1, E2]
    clear E1 E2
    by_cases g : T 101 j = L
    · simp only [if_neg (not_not_intro g)]
      have so := z_so_eq hc cl.2.2 h6 hk (by omega) hv
      by_cases g2 : f_X1_run c (S (c + 6) j) S = 0
      · simp only [if_pos g2, if_neg (not_not_intro (so.1.mp g2))]
        have nx := ih (j + 1) r r' (g_X1_run c (S (c + 6) j) S) (g_X12_isSo (z_i j) T) (by omega) (by omega) (by omega) (z_LawR_t hR (so.2.1 _ (by omega)) (so.2.1 _ (by omega)) (so.2.1 _ (by omega)) (so.2.1 _ (by omega)) (so.2.1 _ (by omega)) (so.2.1 _ (by omega)) (fun a j q => by rw [so.2.2 a (by omega) (by omega)])) (by rw [so.2.2 99 (by omega) (by omega)]; exact h16) (z_vw_t hv (so.2.1 _ (by omega)) (so.2.2 _ (by omega) (by omega)))
        exact ⟨nx.1, fun a ha => (nx.2.1 a ha).trans (so.2.1 a ha), fun a h1 h2 => (nx.2.2 a h1 h2).trans (so.2.2 a h1 h2)⟩
      · have g3 : ¬ f_X12_isSo (z_i j) T = 0 := fun q => g2 (so.1.mpr q)
        simp only [if_neg g2, if_pos g3]
        have hR' : z_LawR c (g_X1_run c (S (c + 6) j) S) (g_X12_isSo (z_i j) T) nc := z_LawR_t hR (so.2.1 _ (by omega)) (so.2.1 _ (by omega)) (so.2.1 _ (by omega)) (so.2.1 _ (by omega)) (so.2.1 _ (by omega)) (so.2.1 _ (by omega)) (fun a j q => by rw [so.2.2 a (by omega) (by omega)])
        obtain ⟨k', h6', hk', hcl3⟩ := hR'.2.2
        have cl' := hcl3 j (by omega)
        have e101 : g_X12_isSo (z_i j) T 101 j = L := by
          rw [so.2.2 101 (by omega) (by omega)]
          exact g
        have am := z_amt_eq hc (cl'.2.1 (by rw [e101]; exact hL)) h6' hk' (z_vw_t hv (so.2.1 _ (by omega)) (so.2.2 _ (by omega) (by omega))) most hm
        refine ⟨?_, fun a ha => (am.2.1 a ha).trans (so.2.1 a ha), fun a h1 h2 => ?_⟩
        · rw [am.1]
          split <;> rfl
        · split
          · exact (am.2.2 a h1 h2).trans (so.2.2 a h1 h2)
          · exact (am.2.2 a h1 h2).trans (so.2.2 a h1 h2)
    · simp only [if_pos g]
      exact ih (j + 1) r r' S T (by omega) (by omega) (by omega) hR h16 hv
theorem z_any_eq {c : Nat} (hc : z_cd c) {L : Int32} {nc : Nat} : ∀ (d j r r' : Nat) (S T : v_Sf), j + d = nc → d ≤ r → d ≤ r' → z_LawR c S T nc → T 99 16 = z_i nc → z_vw (fun a => f_X1_valueAt a S) (fun a => f_X12_valueOf a T) → (r_X3_anyHolds_2 c L r j S).1 = (r_X12_says_2 L r' j T).1 ∧ (∀ a, a ≠ c + 3 → (r_X3_anyHolds_2 c L r j S).2 a = S a) ∧ ∀ a, a ≠ 114 → a ≠ 115 → (r_X12_says_2 L r' j T).2 a = T a := by
  have hcl := z_cdl hc
  intro d
  induction d with
  | zero =>
    intro j r r' S T hj hr hr' hR h16 hv
    have e1 : r_X3_anyHolds_2 c L r j S = (Int32.ofInt 0, S) := by
      cases r with
      | zero => rw [r_X3_anyHolds_2]
      | succ r =>
        rw [r_X3_anyHolds_2, if_pos (by rw [hR.1, z_ile (by have := hR.2.1; omega) (by have := hR.2.1; omega)]; omega)]
    have e2 : r_X12_says_2 L r' j T = (Int32.ofInt 0, T) := by
      cases r' with
      | zero => rw [r_X12_says_2]
      | succ r =>
        rw [r_X12_says_2, if_pos (by rw [h16, z_ile (by have := hR.2.1; omega) (by have := hR.2.1; omega)]; omega)]
    rw [e1, e2]
    exact ⟨rfl, fun _ _ => rfl, fun _ _ _ => rfl⟩
  | succ d ih =>
    intro j r r' S T hj hr hr' hR h16 hv
    obtain ⟨r, rfl⟩ : ∃ r0, r = r0 + 1 := ⟨r - 1, by omega⟩
    obtain ⟨r', rfl⟩ : ∃ r0, r' = r0 + 1 := ⟨r' - 1, by omega⟩
    have hnc := hR.2.1
    have ej : (z_i j).toInt.toNat = j := z_iin (by omega)
    obtain ⟨k, h6, hk, hcl2⟩ := hR.2.2
    have cl := hcl2 j (by omega)
    have nle : ¬ z_i nc ≤ z_i j := by
      rw [z_ile (by omega) (by omega)]
      omega
    have E1 := r_X3_anyHolds_2.eq_2 c L j S r
    have E2 := r_X12_says_2.eq_2 L j T r'
    rw [hR.1, if_neg nle, ej, cl.1] at E1
    rw [h16, if_neg nle, ej] at E2
    rw [E1, E2]
    clear E1 E2
    by_cases g : T 101 j = L
    · simp only [if_neg (not_not_intro g)]
      have so := z_so_eq hc cl.2.2 h6 hk (by omega) hv
      by_cases g2 : f_X1_run c (S (c + 6) j) S = 0
      · simp only [if_pos g2, if_pos (so.1.mp g2)]
        have nx := ih (j + 1) r r' (g_X1_run c (S (c + 6) j) S) (g_X12_isSo (z_i j) T) (by omega) (by omega) (by omega) (z_LawR_t hR (so.2.1 _ (by omega)) (so.2.1 _ (by omega)) (so.2.1 _ (by omega)) (so.2.1 _ (by omega)) (so.2.1 _ (by omega)) (so.2.1 _ (by omega)) (fun a j q => by rw [so.2.2 a (by omega) (by omega)])) (by rw [so.2.2 99 (by omega) (by omega)]; exact h16) (z_vw_t hv (so.2.1 _ (by omega)) (so.2.2 _ (by omega) (by omega)))
        exact ⟨nx.1, fun a ha => (nx.2.1 a ha).trans (so.2.1 a ha), fun a h1 h2 => (nx.2.2 a h1 h2).trans (so.2.2 a h1 h2)⟩
      · have g3 : ¬ f_X12_isSo (z_i j) T = 0 := fun q => g2 (so.1.mpr q)
        simp only [if_neg g2, if_neg g3]
        exact ⟨trivial, so.2.1, so.2.2⟩
    · simp only [if_pos g]
      exact ih (j + 1) r r' S T (by omega) (by omega) (by omega) hR h16 hv
theorem z_amount {c : Nat} (hc : z_cd c) {S T : v_Sf} {nc : Nat} {L most : Int32} (hL : ¬ z_aln L) (hm : 0 ≤ most.toInt) (hR : z_LawR c S T nc) (h16 : T 99 16 = z_i nc) (hv : z_vw (fun a => f_X1_valueAt a S) (fun a => f_X12_valueOf a T)) : f_X3_firstAmount c L most S = f_X12_tells L most T ∧ (∀ a, a ≠ c + 3 → g_X3_firstAmount c L most S a = S a) ∧ ∀ a, a ≠ 114 → a ≠ 115 → g_X12_tells L most T a = T a := z_first_eq hc hL hm nc 0 16 28 S T (by omega) hR.2.1 (by have := hR.2.1; omega) hR h16 hv
theorem z_holds {c : Nat} (hc : z_cd c) {S T : v_Sf} {nc : Nat} {L : Int32} (hR : z_LawR c S T nc) (h16 : T 99 16 = z_i nc) (hv : z_vw (fun a => f_X1_valueAt a S) (fun a => f_X12_valueOf a T)) : f_X3_anyHolds c L S = f_X12_says L T ∧ (∀ a, a ≠ c + 3 → g_X3_anyHolds c L S a = S a) ∧ ∀ a, a ≠ 114 → a ≠ 115 → g_X12_says L T a = T a := z_any_eq hc nc 0 16 28 S T (by omega) hR.2.1 (by have := hR.2.1; omega) hR h16 hv
