/-! conditions: the reference's loops -/
theorem z_joins_s1 {x : Int32} {T : v_Sf} (h : f_X12_top T = Int32.ofInt 38 ∨ ¬ x = 0 ∧ f_X12_top T = Int32.ofInt 124) : s_X12_joins_0 x T = Sum.inl (z_popE T) := by
  unfold s_X12_joins_0 z_popE
  by_cases g : f_X12_top T = Int32.ofInt 38
  · rw [if_pos g]
  · have g2 := h.resolve_left g
    rw [if_neg g, if_neg g2.1, if_neg (not_not_intro g2.2)]
theorem z_joins_s0 {x : Int32} {T : v_Sf} (h : ¬ (f_X12_top T = Int32.ofInt 38 ∨ ¬ x = 0 ∧ f_X12_top T = Int32.ofInt 124)) : s_X12_joins_0 x T = Sum.inr T := by
  unfold s_X12_joins_0
  rw [if_neg (fun q => h (Or.inl q))]
  by_cases g : x = 0
  · rw [if_pos g]
  · rw [if_neg g, if_pos (fun q => h (Or.inr ⟨g, q⟩))]
theorem z_joins_0 {x : Int32} {T : v_Sf} (h : ¬ (f_X12_top T = Int32.ofInt 38 ∨ ¬ x = 0 ∧ f_X12_top T = Int32.ofInt 124)) : g_X12_joins x T = T := by
  unfold g_X12_joins F_X12_joins
  exact z_lim_eq (n := 1) (z_itr_r (z_joins_s0 h))
theorem z_joins_e {w : Nat → Int32} {n p a : Nat} (x : Int32) : ∀ (q m : Nat) (T : v_Sf), z_pm w T p n m q a → ∃ N U, z_itr (fun p => s_X12_joins_0 x p) N T = some U := by
  intro q
  induction q with
  | zero =>
    intro m T h
    refine ⟨1, T, z_itr_r (z_joins_s0 ?_)⟩
    rw [z_top0 h.2.2.2.2.2.2.1]
    exact fun q => q.elim (by decide) (fun q => absurd q.2 (by decide))
  | succ q ih =>
    intro m T h
    by_cases g : f_X12_top T = Int32.ofInt 38 ∨ ¬ x = 0 ∧ f_X12_top T = Int32.ofInt 124
    · obtain ⟨N, U, hU⟩ := ih (m + 1) _ (z_m_pop h).1
      exact ⟨N + 1, U, (z_itr_l (s := fun p => s_X12_joins_0 x p) (z_joins_s1 g)).trans hU⟩
    · exact ⟨1, T, z_itr_r (z_joins_s0 g)⟩
theorem z_joins_1 {w : Nat → Int32} {n p a q m : Nat} {x : Int32} {T : v_Sf} (h : z_pm w T p n m (q + 1) a) (g : f_X12_top T = Int32.ofInt 38 ∨ ¬ x = 0 ∧ f_X12_top T = Int32.ofInt 124) : g_X12_joins x T = g_X12_joins x (z_popE T) := by
  obtain ⟨N, U, hU⟩ := z_joins_e x q (m + 1) _ (z_m_pop h).1
  have h2 : z_itr (fun p => s_X12_joins_0 x p) (N + 1) T = some U := (z_itr_l (s := fun p => s_X12_joins_0 x p) (z_joins_s1 g)).trans hU
  unfold g_X12_joins F_X12_joins
  rw [z_lim_eq h2, z_lim_eq hU]
noncomputable def z_popN (T : v_Sf) : v_Sf := z_s (z_s (g_X12_emit (Int32.ofInt 2) (Int32.ofInt 0) T) 99 9 ((g_X12_emit (Int32.ofInt 2) (Int32.ofInt 0) T 99 9) - (Int32.ofInt 1))) 99 8 ((g_X12_emit (Int32.ofInt 2) (Int32.ofInt 0) T 99 8) - (Int32.ofInt 1))
theorem z_m_popN {w : Nat → Int32} {T : v_Sf} {p n m q a : Nat} (h : z_pm w T p n m (q + 1) (a + 1)) : z_pm w (z_popN T) p n (m + 1) q a ∧ z_fM m q T (z_popN T) ∧ z_popN T 111 m = Int32.ofInt 2 := by
  have e := z_m_emit2 h (Int32.ofInt 2) (Int32.ofInt 0)
  obtain ⟨h1, h2, h3, h4, h5, h6, h7, h8, h9, h10, h11⟩ := h
  have e9 : g_X12_emit (Int32.ofInt 2) (Int32.ofInt 0) T 99 9 = z_i (q + 1) := by
    rw [e, z_sn (by omega), z_sn (by omega), z_sn (by omega), h7]
  have e8 : g_X12_emit (Int32.ofInt 2) (Int32.ofInt 0) T 99 8 = z_i (a + 1) := by
    rw [e, z_sn (by omega), z_sn (by omega), z_sn (by omega), h6]
  unfold z_popN
  rw [e9, e8, e, z_isub, z_isub]
  refine ⟨⟨fun i hi => ?_, ?_, ?_, ?_, ?_, ?_, ?_, ?_, by omega, h10, h11⟩, fun a j q1 q2 q3 => ?_, ?_⟩
  · rw [z_sn (by omega), z_sn (by omega), z_sn (by omega), z_sn (by omega), z_sn (by omega)]
    exact h1 i hi
  · rw [z_sn (by omega), z_sn (by omega), z_sn (by omega), z_sn (by omega), z_sn (by omega)]
    exact h2
  · rw [z_sn (by omega), z_sn (by omega), z_sn (by omega), z_sn (by omega), z_sn (by omega)]
    exact h3
  · rw [z_sn (by omega), z_sn (by omega), z_sn (by omega), z_sn (by omega), z_sn (by omega)]
    exact h4
  · rw [z_sn (by omega), z_sn (by omega), z_ss]
  · rw [z_ss]
  · rw [z_sn (by omega), z_ss]
  · rw [z_sn (by omega), z_sn (by omega), z_sn (by omega), z_sn (by omega), z_sn (by omega)]
    exact h8
  · rw [z_sn (by omega), z_sn (by omega), z_sn (by omega), z_sn (by omega), z_sn (by omega)]
  · rw [z_sn (by omega), z_sn (by omega), z_sn (by omega), z_sn (by omega), z_ss]
theorem z_ends_s1 {T : v_Sf} (h : f_X12_top T = Int32.ofInt 33) : s_X12_ends_0 T = Sum.inl (z_popN T) := by
  unfold s_X12_ends_0 z_popN
  rw [if_neg (not_not_intro h)]
theorem z_ends_s0 {T : v_Sf} (h : ¬ f_X12_top T = Int32.ofInt 33) : s_X12_ends_0 T = Sum.inr T := by
  unfold s_X12_ends_0
  rw [if_pos h]
theorem z_ends_0 {T : v_Sf} (h : ¬ f_X12_top T = Int32.ofInt 33) : g_X12_ends T = T := by
  unfold g_X12_ends F_X12_ends
  exact z_lim_eq (n := 1) (z_itr_r (z_ends_s0 h))
noncomputable def z_kp (T U : v_Sf) : Prop := U 99 5 = T 99 5 ∧ U 99 24 = T 99 24 ∧ U 99 3 = T 99 3 ∧ U 99 4 = T 99 4 ∧ U 100 = T 100
theorem z_popN_k {T : v_Sf} (h5 : T 99 5 = 0) {q : Nat} (h : T 99 9 = z_i (q + 1)) : z_kp T (z_popN T) ∧ z_popN T 99 9 = z_i q := by
  have e : g_X12_emit (Int32.ofInt 2) (Int32.ofInt 0) T = z_s (z_s (z_s T 111 (T 99 7).toInt.toNat (Int32.ofInt 2)) 112 (T 99 7).toInt.toNat (Int32.ofInt 0)) 99 7 (T 99 7 + Int32.ofInt 1) := by
    unfold g_X12_emit
    rw [if_pos (z_good1 h5)]
  unfold z_popN z_kp
  rw [e]
  refine ⟨⟨?_, ?_, ?_, ?_, ?_⟩, ?_⟩
  · rw [z_sn (by omega), z_sn (by omega), z_sn (by omega), z_sn (by omega), z_sn (by omega)]
  · rw [z_sn (by omega), z_sn (by omega), z_sn (by omega), z_sn (by omega), z_sn (by omega)]
  · rw [z_sn (by omega), z_sn (by omega), z_sn (by omega), z_sn (by omega), z_sn (by omega)]
  · rw [z_sn (by omega), z_sn (by omega), z_sn (by omega), z_sn (by omega), z_sn (by omega)]
  · funext j
    rw [z_sn (by omega), z_sn (by omega), z_sn (by omega), z_sn (by omega), z_sn (by omega)]
  · rw [z_sn (by omega), z_ss, z_sn (by omega), z_sn (by omega), z_sn (by omega), h, z_isub]
theorem z_ends_e : ∀ (q : Nat) (T : v_Sf), q < 1000 → T 99 9 = z_i q → T 99 5 = 0 → ∃ N U, z_itr (fun p => s_X12_ends_0 p) N T = some U ∧ z_kp T U := by
  intro q
  induction q with
  | zero =>
    intro T hq h h5
    refine ⟨1, T, z_itr_r (z_ends_s0 ?_), rfl, rfl, rfl, rfl, rfl⟩
    rw [z_top0 h]
    decide
  | succ q ih =>
    intro T hq h h5
    by_cases g : f_X12_top T = Int32.ofInt 33
    · have k := z_popN_k h5 h
      obtain ⟨N, U, hU, k2⟩ := ih _ (by omega) k.2 (by rw [k.1.1]; exact h5)
      exact ⟨N + 1, U, (z_itr_l (s := fun p => s_X12_ends_0 p) (z_ends_s1 g)).trans hU, k2.1.trans k.1.1, k2.2.1.trans k.1.2.1, k2.2.2.1.trans k.1.2.2.1, k2.2.2.2.1.trans k.1.2.2.2.1, k2.2.2.2.2.trans k.1.2.2.2.2⟩
    · exact ⟨1, T, z_itr_r (z_ends_s0 g), rfl, rfl, rfl, rfl, rfl⟩
theorem z_ends_k {w : Nat → Int32} {T : v_Sf} {p n m q a : Nat} (h : z_pm w T p n m q a) : z_kp T (g_X12_ends T) := by
  obtain ⟨N, U, hU, k⟩ := z_ends_e q T (by have := h.2.2.2.2.2.2.2.2; omega) h.2.2.2.2.2.2.1 h.2.2.2.1
  unfold g_X12_ends F_X12_ends
  rw [z_lim_eq hU]
  exact k
theorem z_ends_1 {w : Nat → Int32} {T : v_Sf} {p n m q a : Nat} (h : z_pm w T p n m (q + 1) a) (g : f_X12_top T = Int32.ofInt 33) : g_X12_ends T = g_X12_ends (z_popN T) := by
  have k := z_popN_k (z_pm_5 h) h.2.2.2.2.2.2.1
  obtain ⟨N, U, hU, _⟩ := z_ends_e q (z_popN T) (by have := h.2.2.2.2.2.2.2.2; omega) k.2 (by rw [k.1.1]; exact z_pm_5 h)
  have h2 := (z_itr_l (n := N) (s := fun p => s_X12_ends_0 p) (z_ends_s1 g)).trans hU
  unfold g_X12_ends F_X12_ends
  rw [z_lim_eq h2, z_lim_eq hU]
/-! a piece -/
theorem z_pie_s1 {T : v_Sf} (h5 : T 99 5 = 0) (g : f_X12_here T = Int32.ofInt 33 ∨ f_X12_here T = Int32.ofInt 40) : s_X12_pieceOfC_0 T = Sum.inl (g_X12_opens T) := by
  unfold s_X12_pieceOfC_0
  rw [if_neg (z_good1 h5)]
  by_cases q : f_X12_here T = Int32.ofInt 33
  · rw [if_pos q]
  · rw [if_neg q, if_neg (not_not_intro (g.resolve_left q))]
noncomputable def z_pieR (T : v_Sf) : v_Sf := (if ¬ (f_X12_isGood (g_X12_value T)) = 0 then (if ¬ (f_X12_isCompared (f_X12_here (g_X12_value T))) = 0 then (if ¬ (f_X12_isGood (g_X12_value (g_X12_puts (f_X12_here (g_X12_value T)) (g_X12_value T)))) = 0 then g_X12_ends (z_popE (g_X12_value (g_X12_puts (f_X12_here (g_X12_value T)) (g_X12_value T)))) else g_X12_value (g_X12_puts (f_X12_here (g_X12_value T)) (g_X12_value T))) else g_X12_wrongs (Int32.ofInt 1) ((g_X12_value T) 99 3) (g_X12_value T)) else g_X12_value T)
theorem z_pie_s0 {T : v_Sf} (h5 : T 99 5 = 0) (g : ¬ (f_X12_here T = Int32.ofInt 33 ∨ f_X12_here T = Int32.ofInt 40)) : s_X12_pieceOfC_0 T = Sum.inr (z_pieR T) := by
  unfold s_X12_pieceOfC_0 z_pieR z_popE
  rw [if_neg (z_good1 h5), if_neg (fun q => g (Or.inl q)), if_pos (fun q => g (Or.inr q))]
  split
  · split
    · split
      · rfl
      · rfl
    · rfl
  · rfl
theorem z_pie_e {w : Nat → Int32} {n : Nat} : ∀ (d : Nat) (T : v_Sf) (p m q a : Nat), z_pm w T p n m q a → n - p ≤ d → a ≤ 6 → ∃ N U, z_itr (fun p => s_X12_pieceOfC_0 p) N T = some U := by
  intro d
  induction d with
  | zero =>
    intro T p m q a h hd ha
    refine ⟨1, _, z_itr_r (s := fun p => s_X12_pieceOfC_0 p) (z_pie_s0 (z_pm_5 h) ?_)⟩
    rw [z_pm_here h, show z_hm w p n = Int32.ofInt 0 from if_neg (by omega)]
    decide
  | succ d ih =>
    intro T p m q a h hd ha
    by_cases g : f_X12_here T = Int32.ofInt 33 ∨ f_X12_here T = Int32.ofInt 40
    · have hp : p < n := by
        rw [z_pm_here h, ← z_hcm (by decide), ← z_hcm (by decide)] at g
        rcases g with g | g
        · exact z_hlt (by decide) g
        · exact z_hlt (by decide) g
      rcases Nat.lt_or_ge a 6 with h6 | h6
      · obtain ⟨N, U, hU⟩ := ih _ _ _ _ _ (z_m_opens h hp h6).1 (by omega) (by omega)
        exact ⟨N + 1, U, (z_itr_l (s := fun p => s_X12_pieceOfC_0 p) (z_pie_s1 (z_pm_5 h) g)).trans hU⟩
      · obtain rfl : a = 6 := by omega
        refine ⟨2, g_X12_opens T, (z_itr_l (s := fun p => s_X12_pieceOfC_0 p) (z_pie_s1 (z_pm_5 h) g)).trans (z_itr_r (s := fun p => s_X12_pieceOfC_0 p) ?_)⟩
        show s_X12_pieceOfC_0 (g_X12_opens T) = _
        unfold s_X12_pieceOfC_0
        rw [if_pos (z_bad (by rw [z_m_opens6 h]; exact z_phi0 (by decide) (by have := h.2.2.2.2.2.2.2.2.2; omega)))]
    · exact ⟨1, _, z_itr_r (s := fun p => s_X12_pieceOfC_0 p) (z_pie_s0 (z_pm_5 h) g)⟩
theorem z_pie_1 {w : Nat → Int32} {n p m q a : Nat} {T : v_Sf} (h : z_pm w T p n m q a) (ha : a < 6) (hp : p < n) (g : f_X12_here T = Int32.ofInt 33 ∨ f_X12_here T = Int32.ofInt 40) : g_X12_pieceOfC T = g_X12_pieceOfC (g_X12_opens T) := by
  obtain ⟨N, U, hU⟩ := z_pie_e n _ _ _ _ _ (z_m_opens h hp ha).1 (by omega) (by omega)
  have h2 := (z_itr_l (n := N) (s := fun p => s_X12_pieceOfC_0 p) (z_pie_s1 (z_pm_5 h) g)).trans hU
  unfold g_X12_pieceOfC F_X12_pieceOfC
  rw [z_lim_eq h2, z_lim_eq hU]
theorem z_pie_6 {w : Nat → Int32} {n p m q : Nat} {T : v_Sf} (h : z_pm w T p n m q 6) (g : f_X12_here T = Int32.ofInt 33 ∨ f_X12_here T = Int32.ofInt 40) : g_X12_pieceOfC T 99 5 = z_phi 5 p := by
  have e := z_m_opens6 h
  have hs2 : s_X12_pieceOfC_0 (g_X12_opens T) = Sum.inr (g_X12_opens T) := by
    unfold s_X12_pieceOfC_0
    rw [if_pos (z_bad (by rw [e]; exact z_phi0 (by decide) (by have := h.2.2.2.2.2.2.2.2.2; omega)))]
  have h2 := (z_itr_l (n := 1) (s := fun p => s_X12_pieceOfC_0 p) (z_pie_s1 (z_pm_5 h) g)).trans (z_itr_r (s := fun p => s_X12_pieceOfC_0 p) hs2)
  unfold g_X12_pieceOfC F_X12_pieceOfC
  rw [z_lim_eq h2, e]
theorem z_pie_0 {T : v_Sf} (h5 : T 99 5 = 0) (g : ¬ (f_X12_here T = Int32.ofInt 33 ∨ f_X12_here T = Int32.ofInt 40)) : g_X12_pieceOfC T = z_pieR T := by
  unfold g_X12_pieceOfC F_X12_pieceOfC
  exact z_lim_eq (n := 1) (z_itr_r (s := fun p => s_X12_pieceOfC_0 p) (z_pie_s0 h5 g))
/-! the condition's loop -/
noncomputable def z_cB (T U : v_Sf) : Prop := ∃ N, z_itr (fun p : Int32 × v_Sf => s_X12_condition_37 p.1 p.2) N (Int32.ofInt 1, T) = some U
noncomputable def z_cA (T U : v_Sf) : Prop := ∃ N, z_itr (fun p : Int32 × v_Sf => s_X12_condition_37 p.1 p.2) N (f_X12_goesBehind T, g_X12_goesBehind T) = some U
noncomputable def z_eA (T U : v_Sf) : Prop := z_cA (g_X12_ends T) U
noncomputable def z_wk (A B : v_Sf → Prop) : Prop := ∀ U, A U → ∃ U', B U' ∧ (U' = U ∨ U' 99 5 = U 99 5 ∧ ¬ U 99 5 = 0)
theorem z_wk_i {A B : v_Sf → Prop} (h : ∀ U, A U → B U) : z_wk A B := fun U hU => ⟨U, h U hU, Or.inl rfl⟩
theorem z_wk_t {A B C : v_Sf → Prop} (h1 : z_wk A B) (h2 : z_wk B C) : z_wk A C := by
  intro U hU
  obtain ⟨U1, b1, b2⟩ := h1 U hU
  obtain ⟨U2, c1, c2⟩ := h2 U1 b1
  refine ⟨U2, c1, ?_⟩
  rcases b2 with rfl | b2
  · exact c2
  · rcases c2 with rfl | c2
    · exact Or.inr b2
    · exact Or.inr ⟨c2.1.trans b2.1, b2.2⟩
theorem z_wk_f {A B : v_Sf → Prop} (h : z_wk A B) {v : Int32} (hv : v < 0) (hA : ∃ U, A U ∧ U 99 5 = v) : ∃ U, B U ∧ U 99 5 = v := by
  obtain ⟨U, a1, a2⟩ := hA
  obtain ⟨U1, b1, b2⟩ := h U a1
  refine ⟨U1, b1, ?_⟩
  rcases b2 with rfl | b2
  · exact a2
  · exact b2.1.trans a2
theorem z_c0 {T : v_Sf} (h : ¬ T 99 5 = 0) (x : Int32) : s_X12_condition_37 x T = Sum.inr T := by
  unfold s_X12_condition_37
  rw [if_pos (z_bad h)]
theorem z_cB_bad {T : v_Sf} (h : T 99 5 = 0) (h24 : T 99 24 = 0) (hb : ¬ g_X12_pieceOfC T 99 5 = 0) : z_cB T (g_X12_pieceOfC T) := by
  refine ⟨2, ?_⟩
  have s1 : s_X12_condition_37 (Int32.ofInt 1) T = Sum.inl ((Int32.ofInt 1), g_X12_pieceOfC T) := by
    unfold s_X12_condition_37
    rw [if_neg (z_good1 h), if_neg (not_not_intro h24), if_neg (by decide), if_pos (z_bad hb)]
  rw [z_itr_l (s := fun p : Int32 × v_Sf => s_X12_condition_37 p.1 p.2) s1]
  exact z_itr_r (s := fun p : Int32 × v_Sf => s_X12_condition_37 p.1 p.2) (z_c0 hb _)
theorem z_cB_good {T U : v_Sf} (h : T 99 5 = 0) (h24 : T 99 24 = 0) (hg : g_X12_pieceOfC T 99 5 = 0) (hU : z_cA (g_X12_pieceOfC T) U) : z_cB T U := by
  obtain ⟨N, hN⟩ := hU
  refine ⟨N + 1, ?_⟩
  have s1 : s_X12_condition_37 (Int32.ofInt 1) T = Sum.inl (f_X12_goesBehind (g_X12_pieceOfC T), g_X12_goesBehind (g_X12_pieceOfC T)) := by
    unfold s_X12_condition_37
    rw [if_neg (z_good1 h), if_neg (not_not_intro h24), if_neg (by decide), if_neg (z_good1 hg)]
  rw [z_itr_l (s := fun p : Int32 × v_Sf => s_X12_condition_37 p.1 p.2) s1]
  exact hN
theorem z_cB_same {T T1 U : v_Sf} (h : T 99 5 = 0) (h24 : T 99 24 = 0) (h' : T1 99 5 = 0) (h24' : T1 99 24 = 0) (hf : g_X12_pieceOfC T = g_X12_pieceOfC T1) (hU : z_cB T1 U) : z_cB T U := by
  obtain ⟨N, hN⟩ := hU
  refine ⟨N, ?_⟩
  cases N with
  | zero => cases hN
  | succ N =>
    have s1 : s_X12_condition_37 (Int32.ofInt 1) T = s_X12_condition_37 (Int32.ofInt 1) T1 := by
      unfold s_X12_condition_37
      rw [if_neg (z_good1 h), if_neg (z_good1 h'), if_neg (not_not_intro h24), if_neg (not_not_intro h24'), hf, if_neg (show ¬ Int32.ofInt 1 = 0 by decide), if_neg (show ¬ Int32.ofInt 1 = 0 by decide)]
    rw [z_itr] at hN ⊢
    rw [s1]
    exact hN
noncomputable def z_beh (c : Int32) : Prop := c = Int32.ofInt 38 ∨ c = Int32.ofInt 124 ∨ c = Int32.ofInt 41
theorem z_goes_bad {w : Nat → Int32} {T : v_Sf} {p n m q a : Nat} (h : z_pm w T p n m q a) (g : ¬ z_beh (z_hc w p n)) : f_X12_goesBehind T = Int32.ofInt 0 ∧ g_X12_goesBehind T = z_s T 99 5 (z_phi 1 p) := by
  have gm : ¬ z_beh (z_hm w p n) := fun q => g (by unfold z_beh at q ⊢; rw [z_hcm (by decide), z_hcm (by decide), z_hcm (by decide)]; exact q)
  unfold f_X12_goesBehind g_X12_goesBehind
  rw [z_pm_here h, if_neg (fun q => gm (Or.inl q)), if_neg (fun q => gm (Or.inl q)), if_pos (fun q => gm (Or.inr (Or.inl q))), if_pos (fun q => gm (Or.inr (Or.inl q))), if_neg (fun q => gm (Or.inr (Or.inr q))), if_neg (fun q => gm (Or.inr (Or.inr q))), z_m_wrong h]
  exact ⟨rfl, rfl⟩
theorem z_cA_bad {w : Nat → Int32} {T : v_Sf} {p n m q a : Nat} (h : z_pm w T p n m q a) (g : ¬ z_beh (z_hc w p n)) : z_cA T (z_s T 99 5 (z_phi 1 p)) := by
  have k := z_goes_bad h g
  refine ⟨1, ?_⟩
  rw [k.1, k.2]
  refine z_itr_r (s := fun p : Int32 × v_Sf => s_X12_condition_37 p.1 p.2) (z_c0 ?_ _)
  show ¬ z_s T 99 5 (z_phi 1 p) 99 5 = 0
  rw [z_ss]
  exact z_phi0 (by decide) (by have := h.2.2.2.2.2.2.2.2.2; omega)
theorem z_cA_u {T U V : v_Sf} (h1 : z_cA T U) (h2 : z_cA T V) : U = V := by
  obtain ⟨N, a⟩ := h1
  obtain ⟨M, b⟩ := h2
  exact z_itr_u a b
theorem z_goes_eq {T T' : v_Sf} (hh : f_X12_here T = f_X12_here T') (h1 : g_X12_joins (Int32.ofInt 1) T = g_X12_joins (Int32.ofInt 1) T') (h0 : f_X12_here T = Int32.ofInt 38 → g_X12_joins (Int32.ofInt 0) T = g_X12_joins (Int32.ofInt 0) T') (hb : z_beh (f_X12_here T)) : f_X12_goesBehind T = f_X12_goesBehind T' ∧ g_X12_goesBehind T = g_X12_goesBehind T' := by
  unfold f_X12_goesBehind g_X12_goesBehind
  rw [← hh, h1]
  refine ⟨rfl, ?_⟩
  rcases hb with q | q | q
  · rw [if_pos q, if_pos q, h0 q]
  · have n38 : ¬ f_X12_here T = Int32.ofInt 38 := by
      rw [q]
      decide
    rw [if_neg n38, if_neg n38, if_neg (not_not_intro q), if_neg (not_not_intro q)]
  · have n38 : ¬ f_X12_here T = Int32.ofInt 38 := by
      rw [q]
      decide
    have n124 : ¬ f_X12_here T = Int32.ofInt 124 := by
      rw [q]
      decide
    rw [if_neg n38, if_neg n38, if_pos n124, if_pos n124, if_pos q, if_pos q]
theorem z_cA_pop {w : Nat → Int32} {T : v_Sf} {p n m q a : Nat} (h : z_pm w T p n m (q + 1) a) (g : T 113 q = Int32.ofInt 38 ∨ T 113 q = Int32.ofInt 124 ∧ ¬ z_hc w p n = Int32.ofInt 38) : z_wk (z_cA (z_popE T)) (z_cA T) := by
  have h' := (z_m_pop h).1
  have et := z_pm_top h
  intro U hU
  by_cases b : z_beh (z_hc w p n)
  · have bm : z_beh (z_hm w p n) := by
      unfold z_beh at b ⊢
      rw [← z_hcm (by decide), ← z_hcm (by decide), ← z_hcm (by decide)]
      exact b
    refine ⟨U, ?_, Or.inl rfl⟩
    have k := z_goes_eq (T := T) (T' := z_popE T) (by rw [z_pm_here h, z_pm_here h']) (z_joins_1 h (by rw [et]; exact g.elim Or.inl (fun q => Or.inr ⟨by decide, q.1⟩))) (fun q38 => z_joins_1 h (by
      rw [et]
      refine g.elim Or.inl (fun q => absurd ?_ q.2)
      rw [z_pm_here h, ← z_hcm (by decide)] at q38
      exact q38)) (by rw [z_pm_here h]; exact bm)
    obtain ⟨N, hN⟩ := hU
    exact ⟨N, by rw [k.1, k.2]; exact hN⟩
  · have e := z_cA_u hU (z_cA_bad h' b)
    refine ⟨_, z_cA_bad h b, Or.inr ?_⟩
    rw [e, z_ss, z_ss]
    exact ⟨rfl, z_phi0 (by decide) (by have := h.2.2.2.2.2.2.2.2.2; omega)⟩
theorem z_eA_bad {w : Nat → Int32} {T U : v_Sf} {p n m q a : Nat} (h : z_pm w T p n m q a) (g : ¬ z_beh (z_hc w p n)) (hU : z_eA T U) : U 99 5 = z_phi 1 p := by
  have k := z_ends_k h
  have gm : ¬ z_beh (z_hm w p n) := fun q => g (by unfold z_beh at q ⊢; rw [z_hcm (by decide), z_hcm (by decide), z_hcm (by decide)]; exact q)
  have hh : f_X12_here (g_X12_ends T) = z_hm w p n := by
    rw [← z_pm_here h]
    unfold f_X12_here
    rw [k.2.2.1, k.2.2.2.1, k.2.2.2.2]
  obtain ⟨N, hN⟩ := hU
  have e1 : f_X12_goesBehind (g_X12_ends T) = Int32.ofInt 0 := by
    unfold f_X12_goesBehind
    rw [hh, if_neg (fun q => gm (Or.inl q)), if_pos (fun q => gm (Or.inr (Or.inl q))), if_neg (fun q => gm (Or.inr (Or.inr q)))]
  have e2 : g_X12_goesBehind (g_X12_ends T) = z_s (g_X12_ends T) 99 5 (z_phi 1 p) := by
    unfold g_X12_goesBehind g_X12_wrongs z_phi
    rw [hh, if_neg (fun q => gm (Or.inl q)), if_pos (fun q => gm (Or.inr (Or.inl q))), if_neg (fun q => gm (Or.inr (Or.inr q))), if_pos (by rw [k.1, z_pm_5 h]; decide), k.2.2.1, h.2.1]
  rw [e1, e2] at hN
  have hb : ¬ z_s (g_X12_ends T) 99 5 (z_phi 1 p) 99 5 = 0 := by
    rw [z_ss]
    exact z_phi0 (by decide) (by have := h.2.2.2.2.2.2.2.2.2; omega)
  have := z_itr_u hN (z_itr_r (n := 0) (s := fun p : Int32 × v_Sf => s_X12_condition_37 p.1 p.2) (a := (Int32.ofInt 0, z_s (g_X12_ends T) 99 5 (z_phi 1 p))) (z_c0 hb _))
  rw [this, z_ss]
