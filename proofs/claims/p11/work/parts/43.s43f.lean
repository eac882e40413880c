/-! factors, terms, sums: both readers -/
noncomputable def z_res (S' : v_Sf) (B : v_Sf → Prop) (K : Prop) : Prop := (S' 66 6 < 0 ∧ ∃ U, B U ∧ U 99 5 = S' 66 6) ∨ K
noncomputable def z_ok (e : Nat) (w : Nat → Int32) (n q a h : Nat) (S T : v_Sf) (p k m : Nat) (S' T' : v_Sf) (p' k' m' : Nat) (D : (Int32 → Int32) → Option Int32) : Prop := z_pc e w S' p' n k' ∧ z_pm w T' p' n m' q a ∧ (p ≤ p' ∧ k ≤ k' ∧ m ≤ m' ∧ k' + p ≤ k + p') ∧ z_fC e k S S' ∧ z_fM m q T T' ∧ z_segC (S' (e + 1)) (S' (e + 2)) k k' h D ∧ z_segM (T' 111) (T' 112) m m' D
noncomputable def z_FAC (e : Nat) (w : Nat → Int32) (n : Nat) (g : v_Sf → v_Sf) (a h : Nat) : Prop := ∀ (S T : v_Sf) (p k m q : Nat), z_pc e w S p n k → z_pm w T p n m q a → k ≤ p → z_res (g S) (z_vE T) (∃ T' p' k' m' D, z_ok e w n q a h S T p k m (g S) T' p' k' m' D ∧ p < p' ∧ ∀ U, z_vA T' U → z_vE T U)
noncomputable def z_TRM (e : Nat) (w : Nat → Int32) (n : Nat) (g : v_Sf → v_Sf) (a h : Nat) : Prop := ∀ (S T : v_Sf) (p k m q : Nat), z_pc e w S p n k → z_pm w T p n m q a → k ≤ p → ¬ z_tms (f_X12_top T) → z_res (g S) (z_vE T) (∃ T' p' k' m' D, z_ok e w n q a h S T p k m (g S) T' p' k' m' D ∧ p < p' ∧ ¬ z_tms (z_hc w p' n) ∧ ∀ U, z_vA T' U → z_vE T U)
noncomputable def z_SUM (e : Nat) (w : Nat → Int32) (n : Nat) (g : v_Sf → v_Sf) (a h : Nat) : Prop := ∀ (S T : v_Sf) (p k m q : Nat), z_pc e w S p n k → z_pm w T p n m q a → k ≤ p → ¬ z_tms (f_X12_top T) → ¬ z_pls (f_X12_top T) → z_res (g S) (z_vE T) (∃ T' p' k' m' D, z_ok e w n q a h S T p k m (g S) T' p' k' m' D ∧ p < p' ∧ ¬ z_tms (z_hc w p' n) ∧ ¬ z_pls (z_hc w p' n) ∧ ∀ U, z_vA T' U → z_vE T U)
/-! the letters -/
set_option maxRecDepth 20000 in
theorem z_ixo_all : ∀ i : Fin 256, (decide (g_ixo (z_i i.val) < 0) = decide (f_X12_isValue (z_i i.val) = 0)) := by decide +kernel
theorem z_ixo {x : Int32} (h : 0 ≤ x.toInt ∧ x.toInt ≤ 255) : (g_ixo x < 0) ↔ (f_X12_isValue x = 0) := by
  have e : z_i x.toInt.toNat = x := by
    unfold z_i
    rw [show ((x.toInt.toNat : Nat) : Int) = x.toInt by omega, Int32.ofInt_toInt]
  have h2 : decide (g_ixo (z_i x.toInt.toNat) < 0) = decide (f_X12_isValue (z_i x.toInt.toNat) = 0) := z_ixo_all ⟨x.toInt.toNat, by omega⟩
  rw [e] at h2
  exact decide_eq_decide.mp h2
/-! the reference's stays -/
theorem z_stays_op {T : v_Sf} {c : Int32} (hc : f_X12_here T = c) (g : z_tms c ∨ z_pls c) : f_X12_stays T = Int32.ofInt 1 ∧ g_X12_stays T = g_X12_puts c (g_X12_sums (f_X12_isPlus c) T) := by
  unfold f_X12_stays g_X12_stays
  rw [hc]
  by_cases q : z_tms c
  · rw [if_pos (by rw [z_tmsT q]; decide), if_pos (by rw [z_tmsT q]; decide)]
    exact ⟨rfl, rfl⟩
  · have q2 := g.resolve_left q
    have n1 : ¬ ¬ f_X12_isTimes c = 0 := by
      rw [z_tmsF q]
      decide
    have n2 : ¬ f_X12_isPlus c = 0 := by
      rw [z_plsT q2]
      decide
    refine ⟨?_, ?_⟩ <;> rw [if_neg n1, if_neg n2]
theorem z_stays_no {T : v_Sf} {c : Int32} (hc : f_X12_here T = c) (g1 : ¬ z_tms c) (g2 : ¬ z_pls c) (g3 : ¬ c = Int32.ofInt 93) : f_X12_stays T = Int32.ofInt 0 ∧ g_X12_stays T = g_X12_sums (Int32.ofInt 1) T := by
  unfold f_X12_stays g_X12_stays
  have n1 : ¬ ¬ f_X12_isTimes c = 0 := by
    rw [z_tmsF g1]
    decide
  rw [hc]
  refine ⟨?_, ?_⟩ <;> rw [if_neg n1, if_pos (z_plsF g2), if_neg g3]
theorem z_stays_eq {T T' : v_Sf} (hh : f_X12_here T = f_X12_here T') (h : ∀ x, ¬ x = 0 → g_X12_sums x T = g_X12_sums x T') (h0 : z_tms (f_X12_here T) → g_X12_sums 0 T = g_X12_sums 0 T') : f_X12_stays T = f_X12_stays T' ∧ g_X12_stays T = g_X12_stays T' := by
  have h1 := h (Int32.ofInt 1) (by decide)
  unfold f_X12_stays g_X12_stays
  by_cases q : z_tms (f_X12_here T)
  · have h2 := h0 q
    rw [← hh, z_plsF (z_tp q), h1, h2]
    exact ⟨rfl, rfl⟩
  · by_cases q2 : z_pls (f_X12_here T)
    · rw [← hh, z_plsT q2, h1]
      exact ⟨rfl, rfl⟩
    · have n1 : ¬ ¬ f_X12_isTimes (f_X12_here T) = 0 := by
        rw [z_tmsF q]
        decide
      rw [← hh, h1]
      refine ⟨rfl, ?_⟩
      rw [if_neg n1, if_neg n1, if_pos (z_plsF q2), if_pos (z_plsF q2)]
theorem z_vA_eq {T T' U : v_Sf} (h : f_X12_stays T = f_X12_stays T' ∧ g_X12_stays T = g_X12_stays T') (hU : z_vA T' U) : z_vA T U := by
  obtain ⟨N, hN⟩ := hU
  exact ⟨N, by rw [h.1, h.2]; exact hN⟩
theorem z_vA_op {T U : v_Sf} {c : Int32} (hc : f_X12_here T = c) (g : z_tms c ∨ z_pls c) (hU : z_vE (g_X12_puts c (g_X12_sums (f_X12_isPlus c) T)) U) : z_vA T U := by
  obtain ⟨N, hN⟩ := hU
  have h := z_stays_op hc g
  exact ⟨N, by rw [h.1, h.2]; exact hN⟩
/-- the lazy signs of the stack -/
theorem z_vA_pop {w : Nat → Int32} {p n m q a : Nat} {T U : v_Sf} (h : z_pm w T p n m (q + 1) a) (g : z_tms (T 113 q) ∨ z_pls (T 113 q) ∧ ¬ z_tms (z_hc w p n)) (hU : z_vA (z_popE T) U) : z_vA T U := by
  have et : f_X12_top T = T 113 q := z_top1 h.2.2.2.2.2.2.1 (by have := h.2.2.2.2.2.2.2.2; omega)
  refine z_vA_eq (z_stays_eq ?_ (fun x hx => z_sums_1 h ?_) (fun ht => z_sums_1 h ?_)) hU
  · rw [z_pm_here h, z_pm_here (z_m_pop h).1]
  · rw [et]
    rcases g with g | g
    · exact Or.inl g
    · exact Or.inr ⟨hx, g.1⟩
  · rw [et]
    rcases g with g | g
    · exact Or.inl g
    · rw [z_pm_here h, ← z_h_tms] at ht
      exact absurd ht g.2
/-- the closing ] -/
theorem z_m_close {w : Nat → Int32} {p n m q a : Nat} {T : v_Sf} (h : z_pm w T p n m (q + 1) (a + 1)) (hp : p < n) (v : Int32) : z_pm w (z_s (z_s (z_s (z_s (z_s T 99 9 (T 99 9 - Int32.ofInt 1)) 99 8 (T 99 8 - Int32.ofInt 1)) 99 3 (T 99 3 + Int32.ofInt 1)) 99 25 v) 99 25 (Int32.ofInt 0)) (p + 1) n m q a ∧ z_fM m q T (z_s (z_s (z_s (z_s (z_s T 99 9 (T 99 9 - Int32.ofInt 1)) 99 8 (T 99 8 - Int32.ofInt 1)) 99 3 (T 99 3 + Int32.ofInt 1)) 99 25 v) 99 25 (Int32.ofInt 0)) := by
  obtain ⟨h1, h2, h3, h4, h5, h6, h7, h8, h9, h10, h11⟩ := h
  refine ⟨⟨fun i hi => ?_, ?_, ?_, ?_, ?_, ?_, ?_, ?_, by omega, by omega, h11⟩, fun a j q1 q2 q3 => ?_⟩
  · rw [z_sn (by omega), z_sn (by omega), z_sn (by omega), z_sn (by omega), z_sn (by omega)]
    exact h1 i hi
  · rw [z_sn (by omega), z_sn (by omega), z_ss, h2, z_i1]
  · rw [z_sn (by omega), z_sn (by omega), z_sn (by omega), z_sn (by omega), z_sn (by omega)]
    exact h3
  · rw [z_sn (by omega), z_sn (by omega), z_sn (by omega), z_sn (by omega), z_sn (by omega)]
    exact h4
  · rw [z_sn (by omega), z_sn (by omega), z_sn (by omega), z_sn (by omega), z_sn (by omega)]
    exact h5
  · rw [z_sn (by omega), z_sn (by omega), z_sn (by omega), z_ss, h6, z_isub]
  · rw [z_sn (by omega), z_sn (by omega), z_sn (by omega), z_sn (by omega), z_ss, h7, z_isub]
  · rw [z_ss]
    rfl
  · rw [z_sn (by omega), z_sn (by omega), z_sn (by omega), z_sn (by omega), z_sn (by omega)]
theorem z_vA_close {w : Nat → Int32} {p n m q a : Nat} {T U : v_Sf} (h : z_pm w T p n m (q + 1) (a + 1)) (hp : p < n) (hh : f_X12_here T = Int32.ofInt 93) (ht : T 113 q = Int32.ofInt 91) (hU : z_vA (z_s (z_s (z_s (z_s (z_s T 99 9 (T 99 9 - Int32.ofInt 1)) 99 8 (T 99 8 - Int32.ofInt 1)) 99 3 (T 99 3 + Int32.ofInt 1)) 99 25 (Int32.ofInt 1)) 99 25 (Int32.ofInt 0)) U) : z_vA T U := by
  have et : f_X12_top T = Int32.ofInt 91 := (z_top1 h.2.2.2.2.2.2.1 (by have := h.2.2.2.2.2.2.2.2; omega)).trans ht
  have es : g_X12_sums (Int32.ofInt 1) T = T := z_sums_0 (by rw [et]; unfold z_tms z_pls; decide)
  have e1 : f_X12_stays T = Int32.ofInt 1 := by
    unfold f_X12_stays
    rw [hh, es, et]
    decide
  have e2 : g_X12_stays T = z_s (z_s (z_s (z_s T 99 9 (T 99 9 - Int32.ofInt 1)) 99 8 (T 99 8 - Int32.ofInt 1)) 99 3 (T 99 3 + Int32.ofInt 1)) 99 25 (Int32.ofInt 1) := by
    unfold g_X12_stays
    rw [hh, es, et, if_neg (by decide), if_pos (by decide), if_pos rfl, if_pos rfl]
  obtain ⟨N, hN⟩ := hU
  refine ⟨N + 1, ?_⟩
  rw [e1, e2]
  generalize hX : z_s (z_s (z_s T 99 9 (T 99 9 - Int32.ofInt 1)) 99 8 (T 99 8 - Int32.ofInt 1)) 99 3 (T 99 3 + Int32.ofInt 1) = X at hN
  have x5 : X 99 5 = 0 := by
    rw [← hX, z_sn (by omega), z_sn (by omega), z_sn (by omega)]
    exact h.2.2.2.1
  have g5 : z_s (z_s X 99 25 (Int32.ofInt 1)) 99 25 (Int32.ofInt 0) 99 5 = 0 := by
    rw [z_sn (by omega), z_sn (by omega)]
    exact x5
  have g6 : z_s X 99 25 (Int32.ofInt 1) 99 5 = 0 := by
    rw [z_sn (by omega)]
    exact x5
  have s1 : s_X12_value_7 (Int32.ofInt 1) (z_s X 99 25 (Int32.ofInt 1)) = Sum.inl (f_X12_stays (z_s (z_s X 99 25 (Int32.ofInt 1)) 99 25 (Int32.ofInt 0)), g_X12_stays (z_s (z_s X 99 25 (Int32.ofInt 1)) 99 25 (Int32.ofInt 0))) := by
    unfold s_X12_value_7
    rw [if_neg (show ¬ Int32.ofInt 1 = 0 by decide), if_neg (z_good1 g6), if_pos (by rw [z_ss]; decide), if_neg (z_good1 g5)]
    rcases z_st01 (z_s (z_s X 99 25 (Int32.ofInt 1)) 99 25 (Int32.ofInt 0)) with q | q
    · rw [q, if_pos (by decide)]
    · rw [q, if_neg (by decide)]
  rw [z_itr_l (s := fun p : Int32 × v_Sf => s_X12_value_7 p.1 p.2) s1]
  exact hN
/-- a ] that is wanting -/
theorem z_vA_open {w : Nat → Int32} {p n m q a : Nat} {T : v_Sf} (h : z_pm w T p n m (q + 1) a) (g1 : ¬ z_tms (z_hc w p n)) (g2 : ¬ z_pls (z_hc w p n)) (g3 : ¬ z_hc w p n = Int32.ofInt 93) (ht : T 113 q = Int32.ofInt 91) : z_vA T (z_s T 99 5 (z_phi 1 p)) := by
  have et : f_X12_top T = Int32.ofInt 91 := (z_top1 h.2.2.2.2.2.2.1 (by have := h.2.2.2.2.2.2.2.2; omega)).trans ht
  have es : g_X12_sums (Int32.ofInt 1) T = T := z_sums_0 (by rw [et]; unfold z_tms z_pls; decide)
  have hs := z_stays_no (z_pm_here h) (fun q => g1 (z_h_tms.mpr q)) (fun q => g2 (z_h_pls.mpr q)) (fun q => g3 ((z_hcm (by decide)).mpr q))
  refine ⟨1, ?_⟩
  rw [hs.1, hs.2, es]
  refine z_itr_r (s := fun p : Int32 × v_Sf => s_X12_value_7 p.1 p.2) ?_
  show s_X12_value_7 (Int32.ofInt 0) T = _
  unfold s_X12_value_7
  rw [if_pos (show Int32.ofInt 0 = 0 by decide), if_neg (z_good1 h.2.2.2.1), if_neg (not_not_intro et), z_m_wrong h]
theorem z_pc_n {e : Nat} {w : Nat → Int32} {S : v_Sf} {p n k : Nat} (h : z_pc e w S p n k) : p ≤ n ∧ n ≤ 240 := ⟨h.2.2.2.2.2.2.1, h.2.2.2.2.2.2.2⟩
theorem z_pc_5 {e : Nat} {w : Nat → Int32} {S : v_Sf} {p n k : Nat} (h : z_pc e w S p n k) : S 66 6 = 0 := h.2.2.2.2.1
theorem z_pm_5 {w : Nat → Int32} {T : v_Sf} {p n m q a : Nat} (h : z_pm w T p n m q a) : T 99 5 = 0 := h.2.2.2.1
theorem z_pm_25 {w : Nat → Int32} {T : v_Sf} {p n m q a : Nat} (h : z_pm w T p n m q a) : T 99 25 = 0 := h.2.2.2.2.2.2.2.1
theorem z_pm_q {w : Nat → Int32} {T : v_Sf} {p n m q a : Nat} (h : z_pm w T p n m q a) : m + q ≤ p := h.2.2.2.2.2.2.2.2.1
theorem z_pm_top {w : Nat → Int32} {T : v_Sf} {p n m q a : Nat} (h : z_pm w T p n m (q + 1) a) : f_X12_top T = T 113 q := z_top1 h.2.2.2.2.2.2.1 (by have := h.2.2.2.2.2.2.2.2; omega)
theorem z_fac_ok {e : Nat} (he : z_cd e) {w : Nat → Int32} (hw : z_by w) {n : Nat} {φ : Int32 → v_Sf → v_Sf} {a h : Nat} (ha : a ≤ 6) (hh : 1 ≤ h) (hk : ∀ b, z_sk (φ b)) (hφ : a < 6 → z_SUM e w n (φ (z_i (a + 1))) (a + 1) h) : z_FAC e w n (g_readFactorF e φ (z_i a)) a h := by
  intro S T p k m q hC hM hkp
  have hhC := z_pc_here hC
  have hhM := z_pm_here hM
  have hn := z_pc_n hC
  have hcd := z_cdn he
  have hT5 := z_pm_5 hM
  have hT25 := z_pm_25 hM
  by_cases g1 : z_hc w p n = Int32.ofInt 91
  · have g1m := (z_hcm (by decide)).mp g1
    have hlt := z_hlt (by decide) g1
    have wp : w p = Int32.ofInt 91 := by rw [← g1, z_hcl hlt]
    have E : g_readFactorF e φ (z_i a) S = (if (f_X5_opens (z_i a) S) = 0 then g_X5_opens (z_i a) S else g_X5_expect (Int32.ofInt 93) (φ (z_i a + (Int32.ofInt 1)) (g_X5_opens (z_i a) S))) := by
      unfold g_readFactorF F_readFactorF
      rw [hhC, g1, if_pos (by decide), if_neg (by decide)]
    rcases Nat.lt_or_ge a 6 with h6 | h6
    · have o1 : f_X5_opens (z_i a) S = Int32.ofInt 1 := by
        unfold f_X5_opens
        rw [if_pos (by rw [show Int32.ofInt 6 = z_i 6 from rfl, z_ilt (by omega) (by omega)]; omega)]
      have o2 : g_X5_opens (z_i a) S = z_s S 66 4 (S 66 4 + Int32.ofInt 1) := by
        unfold g_X5_opens
        rw [if_pos (by rw [show Int32.ofInt 6 = z_i 6 from rfl, z_ilt (by omega) (by omega)]; omega)]
      rw [o1, if_neg (by decide), o2, z_i1] at E
      have c1 := z_c_adv he hC hlt
      have m1 := z_m_opens hM hlt h6
      have t1 : f_X12_top (g_X12_opens T) = Int32.ofInt 91 := by rw [z_pm_top m1.1, m1.2.2, wp]
      have fe := z_fac_1 hM h6 (hhM.trans g1m)
      have up : ∀ U, z_vE (g_X12_opens T) U → z_vE T U := fun U hU => z_vE_same hT5 hT25 (z_pm_5 m1.1) (z_pm_25 m1.1) fe hU
      rw [E]
      rcases hφ h6 _ _ (p + 1) k m (q + 1) c1.1 m1.1 (by omega) (by rw [t1]; unfold z_tms; decide) (by rw [t1]; unfold z_pls; decide) with ⟨f1, U, f2, f3⟩ | ⟨T2, p2, k2, m2, D, ⟨o1, o2, o3, o4, o5, o6, o7⟩, o8, o9, o10, o11⟩
      · refine Or.inl ⟨?_, U, up U f2, ?_⟩
        · rw [z_sk_expect f1]
          exact f1
        · rw [z_sk_expect f1]
          exact f3
      · have t2 : T2 113 q = Int32.ofInt 91 := by
          rw [o5 113 q (by omega) (by omega) (by omega), m1.2.2, wp]
        by_cases g2 : z_hc w p2 n = Int32.ofInt 93
        · have hlt2 := z_hlt (by decide) g2
          have E2 : g_X5_expect (Int32.ofInt 93) (φ (z_i (a + 1)) (z_s S 66 4 (S 66 4 + Int32.ofInt 1))) = z_s (φ (z_i (a + 1)) (z_s S 66 4 (S 66 4 + Int32.ofInt 1))) 66 4 ((φ (z_i (a + 1)) (z_s S 66 4 (S 66 4 + Int32.ofInt 1))) 66 4 + Int32.ofInt 1) := by
            unfold g_X5_expect
            rw [z_pc_here o1, if_neg (not_not_intro g2)]
          rw [E2]
          have c2 := z_c_adv he o1 hlt2
          have m2' := z_m_close o2 hlt2 (Int32.ofInt 1)
          refine Or.inr ⟨_, p2 + 1, k2, m2, D, ⟨c2.1, m2'.1, ⟨by omega, o3.2.1, o3.2.2.1, by omega⟩, z_fC_t (z_fC_t c1.2 o4 (Nat.le_refl _)) c2.2 o3.2.1, z_fM_t (z_fM_t m1.2.1 o5 (Nat.le_refl _) (by omega)) m2'.2 o3.2.2.1 (Nat.le_refl _), z_segC_a o6 (fun x hx hy => ⟨c2.2 _ _ (by omega) (by omega) (by omega), c2.2 _ _ (by omega) (by omega) (by omega)⟩), z_segM_a o7 (fun x hx hy => ⟨m2'.2 _ _ (by omega) (by omega) (by omega), m2'.2 _ _ (by omega) (by omega) (by omega)⟩)⟩, by omega, fun U hU => ?_⟩
          exact up U (o11 U (z_vA_close o2 hlt2 ((z_pm_here o2).trans ((z_hcm (by decide)).mp g2)) t2 hU))
        · have E2 : g_X5_expect (Int32.ofInt 93) (φ (z_i (a + 1)) (z_s S 66 4 (S 66 4 + Int32.ofInt 1))) 66 6 = z_phi 1 p2 := by
            unfold g_X5_expect
            rw [z_pc_here o1, if_pos g2]
            exact z_c_fail o1 1
          have hn2 := z_pc_n o1
          refine Or.inl ⟨?_, _, up _ (o11 _ (z_vA_open o2 o9 o10 g2 t2)), ?_⟩
          · rw [E2]
            exact z_phi_n (by decide) (by omega)
          · rw [E2, z_ss]
    · obtain rfl : a = 6 := by omega
      have o1 : f_X5_opens (z_i 6) S = Int32.ofInt 0 := by
        unfold f_X5_opens
        rw [if_neg (by decide)]
      have o2 : g_X5_opens (z_i 6) S = g_X5_fail (Int32.ofInt 5) (S 66 4) S := by
        unfold g_X5_opens
        rw [if_neg (by decide)]
      rw [o1, if_pos (by decide), o2] at E
      have f6 := z_fac_6 hM (hhM.trans g1m)
      obtain ⟨U, u1, u2⟩ := z_vE_bad hT5 hT25 (by rw [f6]; exact z_phi0 (by decide) (by omega))
      refine Or.inl ⟨?_, U, u1, ?_⟩
      · rw [E, z_c_fail hC 5]
        exact z_phi_n (by decide) (by omega)
      · rw [E, z_c_fail hC 5, u2, f6]
  · have g1m : ¬ z_hm w p n = Int32.ofInt 91 := fun q => g1 ((z_hcm (by decide)).mpr q)
    have fin : ∀ {U : v_Sf}, s_X12_factor_0 T = Sum.inr U → g_X12_factor T = U := by
      intro U hU
      unfold g_X12_factor F_X12_factor
      exact z_lim_eq (n := 1) (z_itr_r (s := fun p => s_X12_factor_0 p) hU)
    by_cases gd : z_dig (z_hc w p n)
    · have gdm := z_dig_h.mp gd
      have gc := z_digC.mpr gd
      have hlt := z_dig_lt gd
      have E : g_readFactorF e φ (z_i a) S = r_X5_readNumber_4 e 6 0 (Int32.ofInt 0) S := by
        unfold g_readFactorF F_readFactorF g_X5_readNumber F_X5_readNumber
        rw [hhC]
        by_cases q0 : 0 ≤ z_hc w p n
        · rw [if_pos q0, if_pos g1, if_neg gc.1, if_neg gc.2]
        · rw [if_neg q0, if_pos g1, if_neg gc.1, if_neg gc.2]
      have F : s_X12_factor_0 T = Sum.inr (g_X12_emit (Int32.ofInt 0) (f_X12_reads T) (g_X12_reads T)) := by
        unfold s_X12_factor_0
        rw [if_neg (z_good1 hT5), hhM, if_pos g1m, if_neg (by unfold f_X12_seesDigit; rw [hhM, z_digM]; exact not_not_intro gdm)]
      have F2 := fin F
      have e3 : T 99 3 = z_i p := hM.2.1
      rw [E]
      rcases z_num he p 6 0 (Int32.ofInt 0) S T p k m q a rfl (by omega) rfl hC hM with ⟨p', v, S2, T2, b1, b2, b3, b4, b5, ⟨N, b6⟩, b7, b8⟩ | ⟨p', v, U, b1, b2, ⟨N, b3⟩, b4⟩
      · have b2' := b2 gd
        have er : F_X12_reads T = (v, T2) := by
          unfold F_X12_reads
          rw [e3]
          exact z_lim_eq b6
        have e1 : f_X12_reads T = v := by
          unfold f_X12_reads
          rw [er]
        have e2 : g_X12_reads T = T2 := by
          unfold g_X12_reads
          rw [er]
        rw [e1, e2] at F2
        have c2 := z_c_put he b4 (by omega) (Int32.ofInt 1) v
        have m2 := z_m_emit b7 (by have := z_pm_q hM; omega) (Int32.ofInt 0) v
        rw [b3]
        refine Or.inr ⟨_, p', k + 1, m + 1, fun _ => some v, ⟨c2.1, m2.1, ⟨b1, by omega, by omega, by omega⟩, z_fC_t b5 c2.2.1 (Nat.le_refl _), z_fM_t b8 m2.2.1 (Nat.le_refl _) (Nat.le_refl _), ?_, ?_⟩, b2', fun U hU => ?_⟩
        · have := z_sC_num (wi := g_X1_put e (Int32.ofInt 1) v S2 (e + 2)) (c2.2.2.1)
          rw [c2.2.2.2.1] at this
          exact z_segC_h this hh
        · have := z_sM_num (ar := g_X12_emit (Int32.ofInt 0) v T2 112) (m2.2.2.1)
          rw [m2.2.2.2] at this
          exact this
        · refine z_vE_good hT5 hT25 ?_ ?_ ?_
          · rw [F2]
            exact z_pm_5 m2.1
          · rw [F2]
            exact z_pm_25 m2.1
          · rw [F2]
            exact hU
      · have er : F_X12_reads T = (v, U) := by
          unfold F_X12_reads
          rw [e3]
          exact z_lim_eq b3
        have hb : ¬ U 99 5 = 0 := by
          rw [b4]
          exact z_phi0 (by decide) (by omega)
        have F3 : g_X12_factor T = U := by
          rw [F2]
          unfold f_X12_reads g_X12_reads
          rw [er]
          unfold g_X12_emit
          rw [if_neg (not_not_intro (z_bad hb))]
        obtain ⟨U2, u1, u2⟩ := z_vE_bad hT5 hT25 (by rw [F3]; exact hb)
        refine Or.inl ⟨?_, U2, u1, ?_⟩
        · rw [b2]
          exact z_phi_n (by decide) (by omega)
        · rw [u2, F3, b4, b2]
    · have gdm : ¬ z_dig (z_hm w p n) := fun q => gd (z_dig_h.mpr q)
      by_cases gv : p < n ∧ ¬ f_X12_isValue (w p) = 0
      · have hlt := gv.1
        have x0 := hw p (by omega)
        have gx : ¬ g_ixo (w p) < 0 := fun q => gv.2 ((z_ixo x0).mp q)
        have E : g_readFactorF e φ (z_i a) S = z_s (g_X1_put e (Int32.ofInt 2) (g_ixo (w p)) S) 66 4 ((g_X1_put e (Int32.ofInt 2) (g_ixo (w p)) S 66 4) + (Int32.ofInt 1)) := by
          unfold g_readFactorF F_readFactorF
          rw [z_hcl hlt] at hhC g1 gd
          rw [hhC, if_pos (by rw [Int32.le_iff_toInt_le]; exact x0.1), if_pos g1]
          by_cases q1 : w p < Int32.ofInt 48
          · rw [if_pos q1, if_neg gx]
          · rw [if_neg q1]
            by_cases q2 : Int32.ofInt 57 < w p
            · rw [if_pos q2, if_neg gx]
            · exact absurd (z_digC.mp ⟨q1, q2⟩) gd
        have F : s_X12_factor_0 T = Sum.inr (z_s (g_X12_emit (Int32.ofInt 1) (w p) T) 99 3 ((g_X12_emit (Int32.ofInt 1) (w p) T 99 3) + (Int32.ofInt 1))) := by
          unfold s_X12_factor_0
          rw [if_neg (z_good1 hT5), hhM, if_pos g1m, if_pos (by unfold f_X12_seesDigit; rw [hhM, z_digM]; exact gdm), z_hml hlt, if_neg gv.2]
        have F2 := fin F
        have c2 := z_c_put he hC (by omega) (Int32.ofInt 2) (g_ixo (w p))
        have c3 := z_c_adv he c2.1 hlt
        have M : z_pm w (z_s (g_X12_emit (Int32.ofInt 1) (w p) T) 99 3 ((g_X12_emit (Int32.ofInt 1) (w p) T 99 3) + (Int32.ofInt 1))) (p + 1) n (m + 1) q a ∧ z_fM m q T (z_s (g_X12_emit (Int32.ofInt 1) (w p) T) 99 3 ((g_X12_emit (Int32.ofInt 1) (w p) T 99 3) + (Int32.ofInt 1))) ∧ z_s (g_X12_emit (Int32.ofInt 1) (w p) T) 99 3 ((g_X12_emit (Int32.ofInt 1) (w p) T 99 3) + (Int32.ofInt 1)) 111 m = Int32.ofInt 1 ∧ z_s (g_X12_emit (Int32.ofInt 1) (w p) T) 99 3 ((g_X12_emit (Int32.ofInt 1) (w p) T 99 3) + (Int32.ofInt 1)) 112 m = w p := by
          have hq := z_pm_q hM
          obtain ⟨h1, h2, h3, h4, h5, h6, h7, h8, h9, h10, h11⟩ := hM
          have E : g_X12_emit (Int32.ofInt 1) (w p) T = z_s (z_s (z_s T 111 m (Int32.ofInt 1)) 112 m (w p)) 99 7 (z_i (m + 1)) := by
            unfold g_X12_emit
            rw [if_pos (z_good1 h4), h5, z_i1, z_iin (by omega)]
          rw [E]
          refine ⟨⟨fun i hi => ?_, ?_, ?_, ?_, ?_, ?_, ?_, ?_, by omega, by omega, h11⟩, fun a j q1 q2 q3 => ?_, ?_, ?_⟩
          · rw [z_sn (by omega), z_sn (by omega), z_sn (by omega), z_sn (by omega)]
            exact h1 i hi
          · rw [z_ss, z_sn (by omega), z_sn (by omega), z_sn (by omega), h2, z_i1]
          · rw [z_sn (by omega), z_sn (by omega), z_sn (by omega), z_sn (by omega)]
            exact h3
          · rw [z_sn (by omega), z_sn (by omega), z_sn (by omega), z_sn (by omega)]
            exact h4
          · rw [z_sn (by omega), z_ss]
          · rw [z_sn (by omega), z_sn (by omega), z_sn (by omega), z_sn (by omega)]
            exact h6
          · rw [z_sn (by omega), z_sn (by omega), z_sn (by omega), z_sn (by omega)]
            exact h7
          · rw [z_sn (by omega), z_sn (by omega), z_sn (by omega), z_sn (by omega)]
            exact h8
          · rw [z_sn (by omega), z_sn (by omega), z_sn (by omega), z_sn (by omega)]
          · rw [z_sn (by omega), z_sn (by omega), z_sn (by omega), z_ss]
          · rw [z_sn (by omega), z_sn (by omega), z_ss]
        rw [E]
        refine Or.inr ⟨_, p + 1, k + 1, m + 1, fun V => some (V (g_ixo (w p))), ⟨c3.1, M.1, ⟨by omega, by omega, by omega, by omega⟩, z_fC_t c2.2.1 c3.2 (by omega), M.2.1, ?_, ?_⟩, by omega, fun U hU => ?_⟩
        · have s1 : z_s (g_X1_put e (Int32.ofInt 2) (g_ixo (w p)) S) 66 4 ((g_X1_put e (Int32.ofInt 2) (g_ixo (w p)) S 66 4) + (Int32.ofInt 1)) (e + 1) k = Int32.ofInt 2 := by
            rw [z_sn (by omega)]
            exact c2.2.2.1
          have s2 : z_s (g_X1_put e (Int32.ofInt 2) (g_ixo (w p)) S) 66 4 ((g_X1_put e (Int32.ofInt 2) (g_ixo (w p)) S 66 4) + (Int32.ofInt 1)) (e + 2) k = g_ixo (w p) := by
            rw [z_sn (by omega)]
            exact c2.2.2.2.1
          have := z_sC_let (wi := z_s (g_X1_put e (Int32.ofInt 2) (g_ixo (w p)) S) 66 4 ((g_X1_put e (Int32.ofInt 2) (g_ixo (w p)) S 66 4) + (Int32.ofInt 1)) (e + 2)) s1
          rw [s2] at this
          exact z_segC_h this hh
        · have := z_sM_let (ar := z_s (g_X12_emit (Int32.ofInt 1) (w p) T) 99 3 ((g_X12_emit (Int32.ofInt 1) (w p) T 99 3) + (Int32.ofInt 1)) 112) M.2.2.1 (by rw [M.2.2.2]; exact gv.2)
          rw [M.2.2.2] at this
          exact this
        · refine z_vE_good hT5 hT25 ?_ ?_ ?_
          · rw [F2]
            exact z_pm_5 M.1
          · rw [F2]
            exact z_pm_25 M.1
          · rw [F2]
            exact hU
      · have E : g_readFactorF e φ (z_i a) S = g_X5_fail (Int32.ofInt 1) (S 66 4) S := by
          unfold g_readFactorF F_readFactorF
          rw [hhC]
          by_cases q0 : 0 ≤ z_hc w p n
          · have hlt : p < n := by
              refine Classical.byContradiction (fun q => ?_)
              have : z_hc w p n = Int32.ofInt (-1) := if_neg q
              rw [this] at q0
              exact absurd q0 (by decide)
            have gx : g_ixo (z_hc w p n) < 0 := by
              rw [z_hcl hlt]
              exact (z_ixo (hw p (by omega))).mpr (Classical.byContradiction (fun q => gv ⟨hlt, q⟩))
            rw [if_pos q0, if_pos g1]
            by_cases q1 : z_hc w p n < Int32.ofInt 48
            · rw [if_pos q1, if_pos gx]
            · rw [if_neg q1]
              by_cases q2 : Int32.ofInt 57 < z_hc w p n
              · rw [if_pos q2, if_pos gx]
              · exact absurd (z_digC.mp ⟨q1, q2⟩) gd
          · rw [if_neg q0, if_pos g1]
            by_cases q1 : z_hc w p n < Int32.ofInt 48
            · rw [if_pos q1]
            · rw [if_neg q1]
              by_cases q2 : Int32.ofInt 57 < z_hc w p n
              · rw [if_pos q2]
              · exact absurd (z_digC.mp ⟨q1, q2⟩) gd
        have gvm : f_X12_isValue (z_hm w p n) = 0 := by
          by_cases hlt : p < n
          · rw [z_hml hlt]
            exact Classical.byContradiction (fun q => gv ⟨hlt, q⟩)
          · rw [show z_hm w p n = Int32.ofInt 0 from if_neg hlt]
            decide
        have F : s_X12_factor_0 T = Sum.inr (g_X12_wrongs (Int32.ofInt 1) (T 99 3) T) := by
          unfold s_X12_factor_0
          rw [if_neg (z_good1 hT5), hhM, if_pos g1m, if_pos (by unfold f_X12_seesDigit; rw [hhM, z_digM]; exact gdm), if_pos gvm]
        have F2 := fin F
        have F5 : g_X12_factor T 99 5 = z_phi 1 p := by rw [F2, z_m_wrong hM, z_ss]
        obtain ⟨U, u1, u2⟩ := z_vE_bad hT5 hT25 (by rw [F5]; exact z_phi0 (by decide) (by omega))
        refine Or.inl ⟨?_, U, u1, ?_⟩
        · rw [E, z_c_fail hC 1]
          exact z_phi_n (by decide) (by omega)
        · rw [E, z_c_fail hC 1, u2, F5]
