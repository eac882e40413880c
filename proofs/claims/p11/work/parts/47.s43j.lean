/-! a clause: both readers -/
theorem z_pc_w {e : Nat} {w : Nat → Int32} {S S' : v_Sf} {p n k : Nat} (h : z_pc e w S p n k) (f : ∀ a j, (a = 46 ∨ a = 45 ∨ a = 66 ∨ a = e ∧ j = 6) → S' a j = S a j) : z_pc e w S' p n k := by
  obtain ⟨h1, h2, h3, h4, h5, h6, h7, h8⟩ := h
  refine ⟨fun i hi => ?_, ?_, ?_, ?_, ?_, ?_, h7, h8⟩
  · rw [f _ _ (by omega)]
    exact h1 i hi
  · rw [f _ _ (by omega)]
    exact h2
  · rw [f _ _ (by omega)]
    exact h3
  · rw [f _ _ (by omega)]
    exact h4
  · rw [f _ _ (by omega)]
    exact h5
  · rw [f _ _ (by omega)]
    exact h6
theorem z_pm_w {w : Nat → Int32} {T T' : v_Sf} {p n m q a : Nat} (h : z_pm w T p n m q a) (f : ∀ b j, (b = 100 ∨ b = 99 ∧ (j = 3 ∨ j = 4 ∨ j = 5 ∨ j = 7 ∨ j = 8 ∨ j = 9 ∨ j = 25)) → T' b j = T b j) : z_pm w T' p n m q a := by
  obtain ⟨h1, h2, h3, h4, h5, h6, h7, h8, h9, h10, h11⟩ := h
  refine ⟨fun i hi => ?_, ?_, ?_, ?_, ?_, ?_, ?_, ?_, h9, h10, h11⟩
  · rw [f _ _ (by omega)]
    exact h1 i hi
  · rw [f _ _ (by omega)]
    exact h2
  · rw [f _ _ (by omega)]
    exact h3
  · rw [f _ _ (by omega)]
    exact h4
  · rw [f _ _ (by omega)]
    exact h5
  · rw [f _ _ (by omega)]
    exact h6
  · rw [f _ _ (by omega)]
    exact h7
  · rw [f _ _ (by omega)]
    exact h8
/-- the whole (C) of a clause -/
theorem z_cond_ok {e : Nat} (he : z_cd e) {w : Nat → Int32} (hw : z_by w) {n : Nat} {S T : v_Sf} {p k m : Nat} (hC : z_pc e w S p n k) (hM : z_pm w T p n m 0 0) (hkp : k ≤ p) :
    (g_rdB6 e (Int32.ofInt 0) S 66 6 < 0 ∧ g_X12_condition T 99 5 = g_rdB6 e (Int32.ofInt 0) S 66 6) ∨
    (∃ p' k' m' D, z_pc e w (g_rdB6 e (Int32.ofInt 0) S) p' n k' ∧ z_pm w (g_X12_condition T) p' n m' 0 0 ∧ (p < p' ∧ k ≤ k' ∧ m ≤ m' ∧ k' + p + 1 ≤ k + p') ∧ z_fC e k S (g_rdB6 e (Int32.ofInt 0) S) ∧ (∀ a j, ¬ (a = 99 ∧ (j = 3 ∨ j = 5 ∨ j = 7 ∨ j = 8 ∨ j = 9 ∨ j = 24 ∨ j = 25)) → ¬ ((a = 111 ∨ a = 112) ∧ m ≤ j) → ¬ a = 113 → g_X12_condition T a j = T a j) ∧ z_segC (g_rdB6 e (Int32.ofInt 0) S (e + 1)) (g_rdB6 e (Int32.ofInt 0) S (e + 2)) k k' 20 D ∧ z_segM (g_X12_condition T 111) (g_X12_condition T 112) m m' D ∧ z_bool D) := by
  have hhC := z_pc_here hC
  have hhM := z_pm_here hM
  have hn := z_pc_n hC
  have hM0 : z_pm w (z_s T 99 24 (Int32.ofInt 0)) p n m 0 0 := z_pm_w hM (fun b j q => z_sn (by omega))
  have hh0 := z_pm_here hM0
  by_cases g : z_hc w p n = Int32.ofInt 40
  · have hlt := z_hlt (by decide) g
    have wp : w p = Int32.ofInt 40 := by rw [← g, z_hcl hlt]
    have gm : z_hm w p n = Int32.ofInt 40 := (z_hcm (by decide)).mp g
    have E : ∀ U, z_cB (g_X12_opens (z_s T 99 24 (Int32.ofInt 0))) U → g_X12_condition T = U := by
      rintro U ⟨N, hN⟩
      unfold g_X12_condition F_X12_condition
      rw [hh0, if_pos gm, if_pos (z_good1 (z_pm_5 hM0))]
      exact z_lim_eq hN
    rcases z_brk_in he (a := 0) (by omega) (z_sk_rdX he 5).2 ((z_rdX_ok he hw 5 1 (by omega) (by omega) (by omega)).2) hC hM0 z_ss hkp hlt wp with ⟨f1, U, f2, f3⟩ | ⟨T2, p2, k2, m2, D, b1, b2, b3, b4, b5, b6, b7, b8, b9, b10, b11, b12⟩
    · exact Or.inl ⟨f1, by rw [E U f2]; exact f3⟩
    · have cl := z_m_cls b2 b4.2.1 (Int32.ofInt 1)
      have et : f_X12_top T2 = Int32.ofInt 40 := by rw [z_pm_top b2, b7]
      have ej : g_X12_joins (Int32.ofInt 1) T2 = T2 := z_joins_0 (by rw [et]; exact fun q => q.elim (by decide) (fun q => absurd q.2 (by decide)))
      have n1 : ¬ ¬ T2 99 9 - Int32.ofInt 1 = 0 := by
        rw [b2.2.2.2.2.2.2.1, z_isub]
        decide
      have e1 : f_X12_goesBehind T2 = Int32.ofInt 0 := by
        unfold f_X12_goesBehind
        rw [z_pm_here b2, z_hml b4.2.1, b11, if_neg (by decide), if_pos (by decide), if_pos rfl]
        split <;> rfl
      have e2 : g_X12_goesBehind T2 = z_cls T2 (Int32.ofInt 1) := by
        unfold g_X12_goesBehind z_cls
        rw [z_pm_here b2, z_hml b4.2.1, b11, if_neg (by decide), if_pos (by decide), if_pos rfl, ej, if_neg n1]
      have hA : z_cA T2 (z_cls T2 (Int32.ofInt 1)) := by
        refine ⟨1, ?_⟩
        rw [e1, e2]
        refine z_itr_r (s := fun p : Int32 × v_Sf => s_X12_condition_37 p.1 p.2) ?_
        show s_X12_condition_37 (Int32.ofInt 0) (z_cls T2 (Int32.ofInt 1)) = _
        unfold s_X12_condition_37
        rw [if_neg (z_good1 (z_pm_5 cl.1)), if_pos (by rw [cl.2.2.1]; decide)]
      obtain ⟨U, u1, u2⟩ := b12 _ hA
      have eU : U = z_cls T2 (Int32.ofInt 1) := u2.resolve_right (fun q => q.2 (z_pm_5 cl.1))
      have e3 := E U u1
      rw [eU] at e3
      rw [e3]
      refine Or.inr ⟨p2 + 1, k2, m2, D, b1, cl.1, ⟨by omega, b4.2.2.1, b4.2.2.2.1, by omega⟩, b5, fun a j q1 q2 q3 => ?_, b8, z_segM_a b9 (fun x hx hy => ⟨cl.2.2.2 _ _ (by omega), cl.2.2.2 _ _ (by omega)⟩), b10⟩
      have e4 : z_cls T2 (Int32.ofInt 1) a j = T2 a j := by
        unfold z_cls
        rw [z_sn (by omega), z_sn (by omega), z_sn (by omega), z_sn (by omega)]
      rw [e4, b6 a j (by omega) (by omega) (by omega), z_sn (by omega)]
  · have gm : ¬ z_hm w p n = Int32.ofInt 40 := fun q => g ((z_hcm (by decide)).mpr q)
    have E2 : g_rdB6 e (Int32.ofInt 0) S 66 6 = z_phi 1 p := by
      unfold g_rdB6 g_readBracketF F_readBracketF
      rw [hhC, if_neg g]
      exact z_c_fail hC 1
    have n2 : z_phi 1 p < 0 := z_phi_n (by decide) (by omega)
    have ew : g_X12_wrongs (Int32.ofInt 1) (T 99 3) (z_s T 99 24 (Int32.ofInt 0)) = z_s (z_s T 99 24 (Int32.ofInt 0)) 99 5 (z_phi 1 p) := by
      have := z_m_wrong hM0 1
      rw [z_sn (by omega)] at this
      exact this
    refine Or.inl ⟨by rw [E2]; exact n2, ?_⟩
    unfold g_X12_condition F_X12_condition
    rw [hh0, if_neg gm, ew, if_neg (not_not_intro (z_bad (by rw [z_ss]; exact z_ng n2))), z_ss, E2]
noncomputable def z_clC (e : Nat) (S T : v_Sf) (j k m : Nat) : Prop := ∃ k1 k2 m1 m2 D, S (e + 6) j = z_i k1 ∧ T 109 j = z_i m1 ∧ T 110 j = z_i m2 ∧ k2 < k ∧ m2 ≤ m ∧ S (e + 1) k2 = 0 ∧ z_segC (S (e + 1)) (S (e + 2)) k1 k2 20 D ∧ z_segM (T 111) (T 112) m1 m2 D ∧ z_bool D
noncomputable def z_clA (e : Nat) (S T : v_Sf) (j k m : Nat) : Prop := ∃ k0 k1 m0 m1 D, S (e + 5) j = z_i k0 ∧ T 108 j = z_i m0 ∧ T 109 j = z_i m1 ∧ k1 < k ∧ m1 ≤ m ∧ S (e + 1) k1 = 0 ∧ z_segC (S (e + 1)) (S (e + 2)) k0 k1 20 D ∧ z_segM (T 111) (T 112) m0 m1 D
theorem z_whole_ok {e : Nat} (he : z_cd e) {w : Nat → Int32} (hw : z_by w) {n : Nat} {S T : v_Sf} {p k m nc : Nat} (x1 x2 : Int32) (hC : z_pc e w S p n k) (hM : z_pm w T p n m 0 0) (hkp : k ≤ p) (hc : S e 7 = z_i nc) (hm : T 99 6 = z_i nc) (hnc : nc < 16) :
    (g_X5_readWhole e S 66 6 < 0 ∧ j_X12_clause_143 x1 x2 T 99 5 = g_X5_readWhole e S 66 6) ∨
    (∃ p' k' m', z_pc e w (g_X5_readWhole e S) p' n k' ∧ z_pm w (j_X12_clause_143 x1 x2 T) p' n m' 0 0 ∧ (p < p' ∧ k ≤ k' ∧ m ≤ m' ∧ k' + p ≤ k + p') ∧ g_X5_readWhole e S e 7 = z_i (nc + 1) ∧ j_X12_clause_143 x1 x2 T 99 6 = z_i (nc + 1) ∧ (∀ a j, ¬ (a = 66 ∧ (j = 4 ∨ j = 5 ∨ j = 6)) → ¬ (a = e ∧ (j = 6 ∨ j = 7)) → ¬ ((a = e + 1 ∨ a = e + 2) ∧ k ≤ j) → ¬ (a = e + 6 ∧ j = nc) → g_X5_readWhole e S a j = S a j) ∧ (∀ a j, ¬ (a = 99 ∧ (j = 3 ∨ j = 5 ∨ j = 6 ∨ j = 7 ∨ j = 8 ∨ j = 9 ∨ j = 24 ∨ j = 25)) → ¬ ((a = 111 ∨ a = 112) ∧ m ≤ j) → ¬ a = 113 → ¬ ((a = 109 ∨ a = 110) ∧ j = nc) → j_X12_clause_143 x1 x2 T a j = T a j) ∧ j_X12_clause_143 x1 x2 T 109 nc = z_i m ∧ z_clC e (g_X5_readWhole e S) (j_X12_clause_143 x1 x2 T) nc k' m') := by
  have hcd := z_cdn he
  have hn := z_pc_n hC
  have enc : (z_i nc).toInt.toNat = nc := z_iin (by omega)
  have c16 : ¬ Int32.ofInt 16 ≤ z_i nc := by
    rw [show Int32.ofInt 16 = z_i 16 from rfl, z_ile (by omega) (by omega)]
    omega
  have E1 : g_X1_openCondition e S = z_s S (e + 6) nc (z_i k) := by
    unfold g_X1_openCondition
    rw [hc, if_neg c16, enc, hC.2.2.2.2.2.1]
  have hC1 : z_pc e w (z_s S (e + 6) nc (z_i k)) p n k := z_pc_w hC (fun a j q => z_sn (by omega))
  have hM1 : z_pm w (z_s T 109 nc (z_i m)) p n m 0 0 := z_pm_w hM (fun b j q => z_sn (by omega))
  have EM : j_X12_clause_143 x1 x2 T = j_X12_clause_167 x1 x2 (g_X12_condition (z_s T 109 nc (z_i m))) := by
    unfold j_X12_clause_143
    rw [hm, enc, hM.2.2.2.2.1, if_neg (z_good1 (z_pm_5 hM1))]
  have EC : g_X5_readWhole e S = g_X1_closeClause e (g_X1_put e (Int32.ofInt 0) (Int32.ofInt 0) (g_rdB6 e (Int32.ofInt 0) (z_s S (e + 6) nc (z_i k)))) := by
    unfold g_X5_readWhole
    rw [E1]
  have kcl : ∀ X : v_Sf, g_X1_closeClause e X 66 6 = X 66 6 := by
    intro X
    unfold g_X1_closeClause
    split
    · rfl
    · rw [z_sn (by omega)]
  have e167 : ∀ X : v_Sf, j_X12_clause_167 x1 x2 X 99 5 = X 99 5 := by
    intro X
    unfold j_X12_clause_167
    rw [z_sn (by omega), z_sn (by omega)]
  rw [EM, EC]
  rcases z_cond_ok he hw hC1 hM1 hkp with ⟨f1, f2⟩ | ⟨p', k', m', D, b1, b2, b3, b4, b5, b6, b7, b8⟩
  · refine Or.inl ⟨?_, ?_⟩
    · rw [kcl, z_sk_put he]
      exact f1
    · rw [kcl, z_sk_put he, e167]
      exact f2
  · have hn' := z_pc_n b1
    have c2 := z_c_put he b1 (by omega) (Int32.ofInt 0) (Int32.ofInt 0)
    have e7 : g_X1_put e (Int32.ofInt 0) (Int32.ofInt 0) (g_rdB6 e (Int32.ofInt 0) (z_s S (e + 6) nc (z_i k))) e 7 = z_i nc := by
      rw [c2.2.1 _ _ (by omega) (by omega) (by omega), b4 _ _ (by omega) (by omega) (by omega), z_sn (by omega), hc]
    have E2 : g_X1_closeClause e (g_X1_put e (Int32.ofInt 0) (Int32.ofInt 0) (g_rdB6 e (Int32.ofInt 0) (z_s S (e + 6) nc (z_i k)))) = z_s (g_X1_put e (Int32.ofInt 0) (Int32.ofInt 0) (g_rdB6 e (Int32.ofInt 0) (z_s S (e + 6) nc (z_i k)))) e 7 (z_i (nc + 1)) := by
      unfold g_X1_closeClause
      rw [e7, if_neg c16, z_i1]
    have m6 : g_X12_condition (z_s T 109 nc (z_i m)) 99 6 = z_i nc := by
      rw [b5 _ _ (by omega) (by omega) (by omega), z_sn (by omega), hm]
    have E3 : j_X12_clause_167 x1 x2 (g_X12_condition (z_s T 109 nc (z_i m))) = z_s (z_s (g_X12_condition (z_s T 109 nc (z_i m))) 110 nc (z_i m')) 99 6 (z_i (nc + 1)) := by
      unfold j_X12_clause_167
      rw [m6, enc, b2.2.2.2.2.1, z_i1]
    rw [E2, E3]
    generalize hX : g_X1_put e (Int32.ofInt 0) (Int32.ofInt 0) (g_rdB6 e (Int32.ofInt 0) (z_s S (e + 6) nc (z_i k))) = X at *
    generalize hY : g_X12_condition (z_s T 109 nc (z_i m)) = Y at *
    have fX : ∀ a j, ¬ (a = 66 ∧ (j = 4 ∨ j = 5 ∨ j = 6)) → ¬ (a = e ∧ j = 6) → ¬ ((a = e + 1 ∨ a = e + 2) ∧ k ≤ j) → X a j = z_s S (e + 6) nc (z_i k) a j := fun a j q1 q2 q3 => (c2.2.1 a j q1 q2 (by omega)).trans (b4 a j q1 q2 q3)
    refine Or.inr ⟨p', k' + 1, m', z_pc_w c2.1 (fun a j q => z_sn (by omega)), z_pm_w b2 (fun b j q => by rw [z_sn (by omega), z_sn (by omega)]), ⟨b3.1, by omega, b3.2.2.1, by omega⟩, z_ss, z_ss, fun a j q1 q2 q3 q4 => ?_, fun a j q1 q2 q3 q4 => ?_, ?_, ?_⟩
    · rw [z_sn (by omega), fX a j q1 (by omega) q3, z_sn (by omega)]
    · rw [z_sn (by omega), z_sn (by omega), b5 a j (by omega) q2 q3, z_sn (by omega)]
    · rw [z_sn (by omega), z_sn (by omega), b5 _ _ (by omega) (by omega) (by omega), z_ss]
    · refine ⟨k, k', m, m', D, ?_, ?_, ?_, by omega, Nat.le_refl _, ?_, z_segC_a b6 (fun x hx hy => ⟨?_, ?_⟩), z_segM_a b7 (fun x hx hy => ⟨?_, ?_⟩), b8⟩
      · rw [z_sn (by omega), fX _ _ (by omega) (by omega) (by omega), z_ss]
      · rw [z_sn (by omega), z_sn (by omega), b5 _ _ (by omega) (by omega) (by omega), z_ss]
      · rw [z_sn (by omega), z_ss]
      · rw [z_sn (by omega)]
        exact c2.2.2.1
      · rw [z_sn (by omega), c2.2.1 _ _ (by omega) (by omega) (by omega)]
      · rw [z_sn (by omega), c2.2.1 _ _ (by omega) (by omega) (by omega)]
      · rw [z_sn (by omega), z_sn (by omega)]
      · rw [z_sn (by omega), z_sn (by omega)]
theorem z_sk_whole {e : Nat} (he : z_cd e) : z_sk (g_X5_readWhole e) := by
  have hcd := z_cdn he
  intro S h
  have k1 : g_X1_openCondition e S 66 6 = S 66 6 := by
    unfold g_X1_openCondition
    split
    · rfl
    · rw [z_sn (by omega)]
  have k2 := z_sk_brk (e := e) (z_sk_rdX he 5).2 (Int32.ofInt 0) (g_X1_openCondition e S) (by rw [k1]; exact h)
  unfold g_X5_readWhole g_X1_closeClause
  split
  · rw [z_sk_put he]
    exact k2.trans k1
  · rw [z_sn (by omega), z_sk_put he]
    exact k2.trans k1
