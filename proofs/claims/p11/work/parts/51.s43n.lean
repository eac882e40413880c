/-! law and rules: both calls -/
noncomputable def z_lwC (c : Nat) (S T : v_Sf) (j k : Nat) : Prop := ∃ k1 k2 m1 m2 D, S (c + 6) j = z_i k1 ∧ T 103 j = z_i m1 ∧ T 104 j = z_i m2 ∧ k2 < k ∧ m2 ≤ 240 ∧ S (c + 1) k2 = 0 ∧ z_segC (S (c + 1)) (S (c + 2)) k1 k2 20 D ∧ z_segM (T 105) (T 106) m1 m2 D ∧ z_bool D
noncomputable def z_lwA (c : Nat) (S T : v_Sf) (j k : Nat) : Prop := ∃ k0 k1 m0 m1 D, S (c + 5) j = z_i k0 ∧ T 102 j = z_i m0 ∧ T 103 j = z_i m1 ∧ k1 < k ∧ m1 ≤ 240 ∧ S (c + 1) k1 = 0 ∧ z_segC (S (c + 1)) (S (c + 2)) k0 k1 20 D ∧ z_segM (T 105) (T 106) m0 m1 D
noncomputable def z_LawR (c : Nat) (S T : v_Sf) (nc : Nat) : Prop := S c 7 = z_i nc ∧ nc ≤ 16 ∧ ∃ k, S c 6 = z_i k ∧ k ≤ 256 ∧ ∀ j, j < nc → S (c + 4) j = T 101 j ∧ (¬ z_aln (T 101 j) → z_lwA c S T j k) ∧ z_lwC c S T j k
theorem z_LawR_t {c : Nat} {S S' T T' : v_Sf} {nc : Nat} (h : z_LawR c S T nc) (f1 : S' c = S c) (f2 : S' (c + 1) = S (c + 1)) (f3 : S' (c + 2) = S (c + 2)) (f4 : S' (c + 4) = S (c + 4)) (f5 : S' (c + 5) = S (c + 5)) (f6 : S' (c + 6) = S (c + 6)) (g : ∀ a j, (101 ≤ a ∧ a ≤ 104 ∧ j < 16 ∨ (a = 105 ∨ a = 106) ∧ j < 240) → T' a j = T a j) : z_LawR c S' T' nc := by
  obtain ⟨a1, a2, k, a3, a4, a5⟩ := h
  refine ⟨by rw [f1]; exact a1, a2, k, by rw [f1]; exact a3, a4, fun j hj => ?_⟩
  obtain ⟨b1, b2, b3⟩ := a5 j hj
  have e1 : T' 101 j = T 101 j := g _ _ (by omega)
  refine ⟨by rw [f4, e1]; exact b1, fun q => ?_, ?_⟩
  · rw [e1] at q
    obtain ⟨k0, k1, m0, m1, D, c1, c2, c3, c4, c5, c6, c7, c8⟩ := b2 q
    refine ⟨k0, k1, m0, m1, D, by rw [f5]; exact c1, by rw [g _ _ (by omega)]; exact c2, by rw [g _ _ (by omega)]; exact c3, c4, c5, by rw [f2]; exact c6, by rw [f2, f3]; exact c7, z_segM_a c8 (fun x hx hy => ⟨g _ _ (by omega), g _ _ (by omega)⟩)⟩
  · obtain ⟨k1, k2, m1, m2, D, c1, c2, c3, c4, c5, c6, c7, c8, c9⟩ := b3
    refine ⟨k1, k2, m1, m2, D, by rw [f6]; exact c1, by rw [g _ _ (by omega)]; exact c2, by rw [g _ _ (by omega)]; exact c3, c4, c5, by rw [f2]; exact c6, by rw [f2, f3]; exact c7, z_segM_a c8 (fun x hx hy => ⟨g _ _ (by omega), g _ _ (by omega)⟩), c9⟩
noncomputable def z_frT (T U : v_Sf) : Prop := ∀ a j, ¬ (a = 99 ∧ (j = 1 ∨ j = 3 ∨ j = 4 ∨ j = 5 ∨ j = 6 ∨ j = 7 ∨ j = 8 ∨ j = 9 ∨ j = 24 ∨ j = 25)) → ¬ (107 ≤ a ∧ a ≤ 113) → U a j = T a j
theorem z_begin_c {e : Nat} (he : z_cd e) {w : Nat → Int32} {S : v_Sf} {n : Nat} (h46 : ∀ i, i < 260 → S 46 i = w i) (hn : n ≤ 240) (hs : z_i n ≤ S 45 1) : z_pc e w (g_X5_begin e (z_i n) S) 0 n 0 ∧ g_X5_begin e (z_i n) S e 7 = z_i 0 := by
  have hcd := z_cdn he
  unfold g_X5_begin g_X1_clear
  refine ⟨⟨fun i hi => ?_, ?_, ?_, ?_, ?_, ?_, by omega, hn⟩, ?_⟩
  · rw [z_sn (by omega), z_sn (by omega), z_sn (by omega), z_sn (by omega), z_sn (by omega), z_sn (by omega)]
    exact h46 i hi
  · rw [z_sn (by omega), z_sn (by omega), z_sn (by omega), z_sn (by omega), z_sn (by omega), z_sn (by omega)]
    exact hs
  · rw [z_sn (by omega), z_sn (by omega), z_ss]
    rfl
  · rw [z_sn (by omega), z_ss]
  · rw [z_ss]
    rfl
  · rw [z_sn (by omega), z_sn (by omega), z_sn (by omega), z_sn (by omega), z_sn (by omega), z_ss]
    rfl
  · rw [z_sn (by omega), z_sn (by omega), z_sn (by omega), z_sn (by omega), z_ss]
    rfl
theorem z_begin_m {w : Nat → Int32} {T : v_Sf} {n : Nat} (h100 : ∀ i, i < 260 → T 100 i &&& Int32.ofInt 255 = w i) (hn : n ≤ 240) (h25 : T 99 25 = 0) : z_px w (z_s (z_s (g_X12_begins (z_i n) T) 99 6 (Int32.ofInt 0)) 99 7 (Int32.ofInt 0)) 0 n 0 ∧ z_s (z_s (g_X12_begins (z_i n) T) 99 6 (Int32.ofInt 0)) 99 7 (Int32.ofInt 0) 99 6 = z_i 0 ∧ z_frT T (z_s (z_s (g_X12_begins (z_i n) T) 99 6 (Int32.ofInt 0)) 99 7 (Int32.ofInt 0)) ∧ z_s (z_s (g_X12_begins (z_i n) T) 99 6 (Int32.ofInt 0)) 99 7 (Int32.ofInt 0) 99 1 = Int32.ofInt 0 := by
  unfold g_X12_begins
  refine ⟨⟨fun i hi => ?_, ?_, ?_, ?_, ?_, ?_, by omega, by omega, hn⟩, ?_, fun a j q1 q2 => ?_, ?_⟩
  · rw [z_sn (by omega), z_sn (by omega), z_sn (by omega), z_sn (by omega), z_sn (by omega), z_sn (by omega)]
    exact h100 i hi
  · rw [z_sn (by omega), z_sn (by omega), z_sn (by omega), z_sn (by omega), z_ss]
    rfl
  · rw [z_sn (by omega), z_sn (by omega), z_sn (by omega), z_ss]
  · rw [z_sn (by omega), z_sn (by omega), z_ss]
    rfl
  · rw [z_ss]
    rfl
  · rw [z_sn (by omega), z_sn (by omega), z_sn (by omega), z_sn (by omega), z_sn (by omega), z_sn (by omega)]
    exact h25
  · rw [z_sn (by omega), z_ss]
    rfl
  · rw [z_sn (by omega), z_sn (by omega), z_sn (by omega), z_sn (by omega), z_sn (by omega), z_sn (by omega)]
  · rw [z_sn (by omega), z_sn (by omega), z_sn (by omega), z_sn (by omega), z_sn (by omega), z_ss]
/-- the end of the reference's text -/
theorem z_fin (b : Int32) {f0 b0 : Nat} (hfb : f0 = 0 ∧ b0 = 0 ∧ b = 0 ∨ f0 = 16 ∧ b0 = 240 ∧ ¬ b = 0) {w : Nat → Int32} {T : v_Sf} {p n m nc : Nat} (hM : z_px w T p n m) (hc : T 99 6 = z_i nc) (hnc : nc ≤ 16) : ∃ T2, (∃ N, z_itr (fun p : Int32 × v_Sf => s_X12_takesText_17 b p.1 p.2) N (Int32.ofInt 0, T) = some (z_i nc, T2)) ∧ (∀ a j, ¬ (101 ≤ a ∧ a ≤ 104 ∧ f0 ≤ j ∧ j < f0 + nc) → ¬ ((a = 105 ∨ a = 106) ∧ b0 ≤ j ∧ j < b0 + m) → T2 a j = T a j) ∧ (∀ j, j < nc → T2 101 (f0 + j) = T 107 j ∧ T2 102 (f0 + j) = z_i b0 + T 108 j ∧ T2 103 (f0 + j) = z_i b0 + T 109 j ∧ T2 104 (f0 + j) = z_i b0 + T 110 j) ∧ ∀ j, j < m → T2 105 (b0 + j) = T 111 j ∧ T2 106 (b0 + j) = T 112 j := by
  obtain ⟨a1, a2, a3, a4, a5, a6, a7, a8, a9⟩ := hM
  obtain ⟨T1, ⟨N1, h1⟩, f1, g1⟩ := z_cp1 b (f0 := f0) (b0 := b0) (nc := nc) (by omega) (by omega) hnc nc 0 T (by omega) hc
  obtain ⟨T2, ⟨N2, h2⟩, f2, g2⟩ := z_cp2 b (b0 := b0) (m := m) (by omega) (by omega) m 0 T1 (by omega) (by rw [f1 _ _ (by omega)]; exact a5)
  have e6 : T1 99 6 = z_i nc := by rw [f1 _ _ (by omega), hc]
  have l2 : z_lim (fun p : Int32 × Int32 × v_Sf => s_X12_takesText_227 b p.1 p.2.1 p.2.2) (Int32.ofInt 0, T1) (z_i b0, Int32.ofInt 0, T1) = (z_i nc, T2) := by
    rw [← e6]
    exact z_lim_eq h2
  rw [l2] at h1
  refine ⟨T2, ⟨1, z_itr_r (s := fun p : Int32 × v_Sf => s_X12_takesText_17 b p.1 p.2) ?_⟩, fun a j q1 q2 => ?_, fun j hj => ?_, fun j hj => ?_⟩
  · show s_X12_takesText_17 b (Int32.ofInt 0) T = _
    unfold s_X12_takesText_17
    rw [if_pos (show Int32.ofInt 0 = 0 by decide), if_pos (by rw [a4]; decide)]
    rcases hfb with ⟨rfl, rfl, q⟩ | ⟨rfl, rfl, q⟩
    · rw [if_pos q]
      exact congrArg Sum.inr (z_lim_eq h1)
    · rw [if_neg q]
      exact congrArg Sum.inr (z_lim_eq h1)
  · rw [f2 a j (by omega), f1 a j (by omega)]
  · have := g1 j (by omega) hj
    rw [f2 _ _ (by omega), f2 _ _ (by omega), f2 _ _ (by omega), f2 _ _ (by omega)]
    exact this
  · have := g2 j (by omega) hj
    rw [f1 _ _ (by omega), f1 _ _ (by omega)] at this
    exact this
theorem z_frT_6 {T T0 U : v_Sf} (h1 : z_frT T T0) (h2 : z_fr6 T0 U) : z_frT T U := fun a j q1 q2 => (h2 a j (by omega) q2).trans (h1 a j q1 q2)
theorem z_law_ok {e : Nat} (he : z_cd e) {w : Nat → Int32} (hw : z_by w) {S T : v_Sf} {n : Nat} (h46 : ∀ i, i < 260 → S 46 i = w i) (h100 : ∀ i, i < 260 → T 100 i &&& Int32.ofInt 255 = w i) (hn : n ≤ 240) (hs : z_i n ≤ S 45 1) (h25 : T 99 25 = 0) :
    (f_X5_readText e (z_i n) (Int32.ofInt 1) S < 0 ∧ f_X12_takesText (z_i n) (Int32.ofInt 0) T = f_X5_readText e (z_i n) (Int32.ofInt 1) S ∧ z_frT T (g_X12_takesText (z_i n) (Int32.ofInt 0) T) ∧ g_X12_takesText (z_i n) (Int32.ofInt 0) T 99 25 = 0 ∧ g_X12_takesText (z_i n) (Int32.ofInt 0) T 99 1 = 0) ∨
    (∃ nc, 1 ≤ nc ∧ nc ≤ 16 ∧ f_X5_readText e (z_i n) (Int32.ofInt 1) S = z_i nc ∧ f_X12_takesText (z_i n) (Int32.ofInt 0) T = z_i nc ∧ z_LawR e (g_X5_readText e (z_i n) (Int32.ofInt 1) S) (g_X12_takesText (z_i n) (Int32.ofInt 0) T) nc ∧ (∀ a j, ¬ (a = 99 ∧ (j = 1 ∨ j = 3 ∨ j = 4 ∨ j = 5 ∨ j = 6 ∨ j = 7 ∨ j = 8 ∨ j = 9 ∨ j = 24 ∨ j = 25)) → ¬ (107 ≤ a ∧ a ≤ 113) → ¬ (101 ≤ a ∧ a ≤ 104 ∧ j < 16) → ¬ ((a = 105 ∨ a = 106) ∧ j < 240) → g_X12_takesText (z_i n) (Int32.ofInt 0) T a j = T a j) ∧ g_X12_takesText (z_i n) (Int32.ofInt 0) T 99 25 = 0 ∧ g_X12_takesText (z_i n) (Int32.ofInt 0) T 99 1 = 0) := by
  have cB := z_begin_c he h46 hn hs
  have mB := z_begin_m h100 hn h25
  unfold f_X5_readText g_X5_readText F_X5_readText
  generalize hS0 : g_X5_begin e (z_i n) S = S0 at *
  generalize hT0 : z_s (z_s (g_X12_begins (z_i n) T) 99 6 (Int32.ofInt 0)) 99 7 (Int32.ofInt 0) = T0 at *
  have EM : ∀ Y, (∃ N, z_itr (fun p : Int32 × v_Sf => s_X12_takesText_17 (Int32.ofInt 0) p.1 p.2) N (Int32.ofInt 1, T0) = some Y) → F_X12_takesText (z_i n) (Int32.ofInt 0) T = Y := by
    rintro Y ⟨N, hN⟩
    unfold F_X12_takesText
    rw [hT0]
    exact z_lim_eq hN
  unfold f_X12_takesText g_X12_takesText
  rcases z_text_law he hw 240 0 S0 T0 0 0 0 0 ⟨cB.1, mB.1, by omega, cB.2, mB.2.1, by omega⟩ (by omega) (fun j hj => by omega) (by omega) with ⟨f1, U, f2, f3, f4⟩ | ⟨S', T', p', k', m', nc', c1, c2, c3, c4, c5, c6, c7⟩
  · have := EM _ f2
    rw [this]
    refine Or.inl ⟨f1, rfl, z_frT_6 mB.2.2.1 f3, f4, ?_⟩
    show U 99 1 = 0
    rw [f3 _ _ (by omega) (by omega), mB.2.2.2]
    rfl
  · obtain ⟨d1, d2, d3, d4, d5, d6⟩ := c4
    obtain ⟨T2, g1, g2, g3, g4⟩ := z_fin (Int32.ofInt 0) (f0 := 0) (b0 := 0) (Or.inl ⟨rfl, rfl, by decide⟩) d2 d5 d6
    have := EM _ (c7 _ g1)
    have hn' := z_pc_n d1
    have hm' : m' ≤ 240 := by have := d2.2.2.2.2.2.2; omega
    rw [this, show (240 - 0 : Nat) = 240 from rfl, c1]
    have fr : ∀ a j, ¬ (a = 99 ∧ (j = 1 ∨ j = 3 ∨ j = 4 ∨ j = 5 ∨ j = 6 ∨ j = 7 ∨ j = 8 ∨ j = 9 ∨ j = 24 ∨ j = 25)) → ¬ (107 ≤ a ∧ a ≤ 113) → ¬ (101 ≤ a ∧ a ≤ 104 ∧ j < 16) → ¬ ((a = 105 ∨ a = 106) ∧ j < 240) → T2 a j = T a j := fun a j q1 q2 q3 q4 => (g2 a j (by omega) (by omega)).trans (z_frT_6 mB.2.2.1 c6 a j q1 q2)
    refine Or.inr ⟨nc', c2, c3, rfl, rfl, ⟨d4, c3, k', d1.2.2.2.2.2.1, by omega, fun j hj => ?_⟩, fr, ?_, ?_⟩
    · obtain ⟨b1, b2, b3⟩ := c5 j hj
      have q := g3 j hj
      have z0 : ∀ v : Int32, z_i 0 + v = v := fun v => by
        rw [show z_i 0 = 0 from rfl, Int32.zero_add]
      simp only [Nat.zero_add, z0] at q g4
      show S' (e + 4) j = T2 101 j ∧ (¬ z_aln (T2 101 j) → z_lwA e S' T2 j k') ∧ z_lwC e S' T2 j k'
      refine ⟨by rw [q.1]; exact b1, fun q1 => ?_, ?_⟩
      · rw [q.1] at q1
        obtain ⟨k0, k1, m0, m1, D, e1, e2, e3, e4, e5, e6, e7, e8⟩ := b2 q1
        exact ⟨k0, k1, m0, m1, D, e1, q.2.1.trans e2, q.2.2.1.trans e3, e4, by omega, e6, e7, z_segM_a e8 (fun x hx hy => ⟨(g4 x (by omega)).1, (g4 x (by omega)).2⟩)⟩
      · obtain ⟨k1, k2, m1, m2, D, e1, e2, e3, e4, e5, e6, e7, e8, e9⟩ := b3
        exact ⟨k1, k2, m1, m2, D, e1, q.2.2.1.trans e2, q.2.2.2.trans e3, e4, by omega, e6, e7, z_segM_a e8 (fun x hx hy => ⟨(g4 x (by omega)).1, (g4 x (by omega)).2⟩), e9⟩
    · show T2 99 25 = 0
      rw [g2 _ _ (by omega) (by omega)]
      exact d2.2.2.2.2.2.1
    · show T2 99 1 = 0
      rw [g2 _ _ (by omega) (by omega), c6 _ _ (by omega) (by omega), mB.2.2.2]
      rfl
theorem z_rul_ok {e : Nat} (he : z_cd e) {w : Nat → Int32} (hw : z_by w) {S T : v_Sf} {n : Nat} (h46 : ∀ i, i < 260 → S 46 i = w i) (h100 : ∀ i, i < 260 → T 100 i &&& Int32.ofInt 255 = w i) (hn : n ≤ 240) (hs : z_i n ≤ S 45 1) (h25 : T 99 25 = 0) :
    (f_X5_readText e (z_i n) (Int32.ofInt 0) S < 0 ∧ f_X12_takesText (z_i n) (Int32.ofInt 1) T = f_X5_readText e (z_i n) (Int32.ofInt 0) S ∧ z_frT T (g_X12_takesText (z_i n) (Int32.ofInt 1) T) ∧ g_X12_takesText (z_i n) (Int32.ofInt 1) T 99 25 = 0 ∧ g_X12_takesText (z_i n) (Int32.ofInt 1) T 99 1 = 0) ∨
    (∃ nc, 1 ≤ nc ∧ nc ≤ 12 ∧ f_X5_readText e (z_i n) (Int32.ofInt 0) S = z_i nc ∧ f_X12_takesText (z_i n) (Int32.ofInt 1) T = z_i nc ∧ g_X5_readText e (z_i n) (Int32.ofInt 0) S e 7 = z_i nc ∧ (∀ a j, ¬ (a = 99 ∧ (j = 1 ∨ j = 3 ∨ j = 4 ∨ j = 5 ∨ j = 6 ∨ j = 7 ∨ j = 8 ∨ j = 9 ∨ j = 24 ∨ j = 25)) → ¬ (107 ≤ a ∧ a ≤ 113) → ¬ (101 ≤ a ∧ a ≤ 104 ∧ 16 ≤ j) → ¬ ((a = 105 ∨ a = 106) ∧ 240 ≤ j) → g_X12_takesText (z_i n) (Int32.ofInt 1) T a j = T a j) ∧ g_X12_takesText (z_i n) (Int32.ofInt 1) T 99 25 = 0 ∧ g_X12_takesText (z_i n) (Int32.ofInt 1) T 99 1 = 0) := by
  have cB := z_begin_c he h46 hn hs
  have mB := z_begin_m h100 hn h25
  unfold f_X5_readText g_X5_readText F_X5_readText
  generalize hS0 : g_X5_begin e (z_i n) S = S0 at *
  generalize hT0 : z_s (z_s (g_X12_begins (z_i n) T) 99 6 (Int32.ofInt 0)) 99 7 (Int32.ofInt 0) = T0 at *
  have EM : ∀ Y, (∃ N, z_itr (fun p : Int32 × v_Sf => s_X12_takesText_17 (Int32.ofInt 1) p.1 p.2) N (Int32.ofInt 1, T0) = some Y) → F_X12_takesText (z_i n) (Int32.ofInt 1) T = Y := by
    rintro Y ⟨N, hN⟩
    unfold F_X12_takesText
    rw [hT0]
    exact z_lim_eq hN
  unfold f_X12_takesText g_X12_takesText
  rcases z_text_rul he hw 240 0 S0 T0 0 0 0 0 ⟨cB.1, mB.1, by omega, cB.2, mB.2.1, by omega⟩ (by omega) (by omega) with ⟨f1, U, f2, f3, f4⟩ | ⟨S', T', p', k', m', nc', c1, c2, c3, c4, c6, c7⟩
  · have := EM _ f2
    rw [this]
    refine Or.inl ⟨f1, rfl, z_frT_6 mB.2.2.1 f3, f4, ?_⟩
    show U 99 1 = 0
    rw [f3 _ _ (by omega) (by omega), mB.2.2.2]
    rfl
  · obtain ⟨d1, d2, d3, d4, d5, d6⟩ := c4
    obtain ⟨T2, g1, g2, g3, g4⟩ := z_fin (Int32.ofInt 1) (f0 := 16) (b0 := 240) (Or.inr ⟨rfl, rfl, by decide⟩) d2 d5 d6
    have := EM _ (c7 _ g1)
    rw [this, show (240 - 0 : Nat) = 240 from rfl, c1]
    refine Or.inr ⟨nc', c2, c3, rfl, rfl, d4, fun a j q1 q2 q3 q4 => (g2 a j (by omega) (by omega)).trans (z_frT_6 mB.2.2.1 c6 a j q1 q2), ?_, ?_⟩
    · show T2 99 25 = 0
      rw [g2 _ _ (by omega) (by omega)]
      exact d2.2.2.2.2.2.1
    · show T2 99 1 = 0
      rw [g2 _ _ (by omega) (by omega), c6 _ _ (by omega) (by omega), mB.2.2.2]
      rfl
