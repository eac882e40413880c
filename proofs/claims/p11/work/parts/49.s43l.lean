/-! clauses and rules: both readers -/
noncomputable def z_px (w : Nat → Int32) (T : v_Sf) (p n m : Nat) : Prop := (∀ i, i < 260 → T 100 i &&& Int32.ofInt 255 = w i) ∧ T 99 3 = z_i p ∧ T 99 4 = z_i n ∧ T 99 5 = 0 ∧ T 99 7 = z_i m ∧ T 99 25 = 0 ∧ m ≤ p ∧ p ≤ n ∧ n ≤ 240
theorem z_px_of {w : Nat → Int32} {T : v_Sf} {p n m q a : Nat} (h : z_pm w T p n m q a) : z_px w T p n m := by
  obtain ⟨h1, h2, h3, h4, h5, h6, h7, h8, h9, h10, h11⟩ := h
  exact ⟨h1, h2, h3, h4, h5, h8, by omega, h10, h11⟩
theorem z_pm_of {w : Nat → Int32} {T T' : v_Sf} {p p' n m : Nat} (h : z_px w T p n m) (hp : p ≤ p') (hn : p' ≤ n) (f : ∀ b j, (b = 100 ∨ b = 99 ∧ (j = 4 ∨ j = 5 ∨ j = 7 ∨ j = 25)) → T' b j = T b j) (h3 : T' 99 3 = z_i p') (h8 : T' 99 8 = z_i 0) (h9 : T' 99 9 = z_i 0) : z_pm w T' p' n m 0 0 := by
  obtain ⟨a1, a2, a3, a4, a5, a6, a7, a8, a9⟩ := h
  refine ⟨fun i hi => ?_, h3, ?_, ?_, ?_, h8, h9, ?_, by omega, hn, a9⟩
  · rw [f _ _ (by omega)]
    exact a1 i hi
  · rw [f _ _ (by omega)]
    exact a3
  · rw [f _ _ (by omega)]
    exact a4
  · rw [f _ _ (by omega)]
    exact a5
  · rw [f _ _ (by omega)]
    exact a6
theorem z_px_here {w : Nat → Int32} {T : v_Sf} {p n m : Nat} (h : z_px w T p n m) : f_X12_here T = z_hm w p n := by
  have h2 : z_pm w (z_s (z_s T 99 9 (z_i 0)) 99 8 (z_i 0)) p n m 0 0 := z_pm_of h (Nat.le_refl _) h.2.2.2.2.2.2.2.1 (fun b j q => by rw [z_sn (by omega), z_sn (by omega)]) (by rw [z_sn (by omega), z_sn (by omega)]; exact h.2.1) z_ss (by rw [z_sn (by omega), z_ss])
  rw [← z_pm_here h2]
  unfold f_X12_here
  rw [z_sn (by omega), z_sn (by omega), z_sn (by omega), z_sn (by omega), z_sn (by omega), z_sn (by omega)]
theorem z_px_wrong {w : Nat → Int32} {T : v_Sf} {p n m : Nat} (h : z_px w T p n m) (c : Int) : g_X12_wrongs (Int32.ofInt c) (T 99 3) T = z_s T 99 5 (z_phi c p) := by
  obtain ⟨a1, a2, a3, a4, a5, a6, a7, a8, a9⟩ := h
  unfold g_X12_wrongs z_phi
  rw [if_pos (by rw [a4]; decide), a2]
noncomputable def z_aln (c : Int32) : Prop := c = Int32.ofInt 101 ∨ c = Int32.ofInt 120
noncomputable def z_amt (c : Int32) : Prop := c = Int32.ofInt 102 ∨ c = Int32.ofInt 103 ∨ c = Int32.ofInt 98 ∨ c = Int32.ofInt 105
theorem z_aln_h {w : Nat → Int32} {p n : Nat} : z_aln (z_hc w p n) ↔ z_aln (z_hm w p n) := by
  unfold z_aln
  rw [z_hcm (by decide), z_hcm (by decide)]
theorem z_amt_h {w : Nat → Int32} {p n : Nat} : z_amt (z_hc w p n) ↔ z_amt (z_hm w p n) := by
  unfold z_amt
  rw [z_hcm (by decide), z_hcm (by decide), z_hcm (by decide), z_hcm (by decide)]
theorem z_isCl {c : Int32} : (¬ f_X12_isClause c = 0) ↔ (z_aln c ∨ z_amt c) := by
  unfold f_X12_isClause z_aln z_amt
  by_cases c1 : c = Int32.ofInt 102
  · rw [if_pos c1]
    exact ⟨fun _ => Or.inr (Or.inl c1), fun _ => by decide⟩
  by_cases c2 : c = Int32.ofInt 103
  · rw [if_neg c1, if_pos c2]
    exact ⟨fun _ => Or.inr (Or.inr (Or.inl c2)), fun _ => by decide⟩
  by_cases c3 : c = Int32.ofInt 98
  · rw [if_neg c1, if_neg c2, if_pos c3]
    exact ⟨fun _ => Or.inr (Or.inr (Or.inr (Or.inl c3))), fun _ => by decide⟩
  by_cases c4 : c = Int32.ofInt 105
  · rw [if_neg c1, if_neg c2, if_neg c3, if_pos c4]
    exact ⟨fun _ => Or.inr (Or.inr (Or.inr (Or.inr c4))), fun _ => by decide⟩
  by_cases c5 : c = Int32.ofInt 101
  · rw [if_neg c1, if_neg c2, if_neg c3, if_neg c4, if_pos c5]
    exact ⟨fun _ => Or.inl (Or.inl c5), fun _ => by decide⟩
  by_cases c6 : c = Int32.ofInt 120
  · rw [if_neg c1, if_neg c2, if_neg c3, if_neg c4, if_neg c5, if_neg (not_not_intro c6)]
    exact ⟨fun _ => Or.inl (Or.inr c6), fun _ => by decide⟩
  rw [if_neg c1, if_neg c2, if_neg c3, if_neg c4, if_neg c5, if_pos c6]
  exact ⟨fun q => absurd rfl q, fun q => by
    rcases q with (q | q) | q | q | q | q
    · exact absurd q c5
    · exact absurd q c6
    · exact absurd q c1
    · exact absurd q c2
    · exact absurd q c3
    · exact absurd q c4⟩
/-- the class's clause, by its letter -/
theorem z_rc_aln {e : Nat} {S : v_Sf} {c : Int32} (hh : f_X5_here S = c) (g : z_aln c) : g_X5_readClause e S = (if (S e 7) < (Int32.ofInt 16) then g_X5_readWhole e (g_X1_openClause e c (z_s S 66 4 ((S 66 4) + (Int32.ofInt 1)))) else g_X5_fail (Int32.ofInt 4) (S 66 4) S) := by
  unfold g_X5_readClause
  rw [hh]
  rcases g with g | g
  · rw [if_pos g]
  · rw [if_neg (by rw [g]; decide), if_neg (not_not_intro g)]
theorem z_rc_amt {e : Nat} {S : v_Sf} {c : Int32} (hh : f_X5_here S = c) (g : z_amt c) : g_X5_readClause e S = (if (S e 7) < (Int32.ofInt 16) then g_X5_readWhole e (g_X1_put e (Int32.ofInt 0) (Int32.ofInt 0) (g_rdS6 e (Int32.ofInt 0) (g_X1_openClause e c (z_s S 66 4 ((S 66 4) + (Int32.ofInt 1)))))) else g_X5_fail (Int32.ofInt 4) (S 66 4) S) := by
  have n1 : ¬ c = Int32.ofInt 101 := by rcases g with g | g | g | g <;> (rw [g]; decide)
  have n2 : ¬ c = Int32.ofInt 120 := by rcases g with g | g | g | g <;> (rw [g]; decide)
  unfold g_X5_readClause
  rw [hh, if_neg n1, if_pos n2]
  rcases g with g | g | g | g
  · rw [if_pos g]
  · rw [if_neg (show ¬ c = Int32.ofInt 102 by rw [g]; decide), if_pos g]
  · rw [if_neg (show ¬ c = Int32.ofInt 102 by rw [g]; decide), if_neg (show ¬ c = Int32.ofInt 103 by rw [g]; decide), if_pos g]
  · rw [if_neg (show ¬ c = Int32.ofInt 102 by rw [g]; decide), if_neg (show ¬ c = Int32.ofInt 103 by rw [g]; decide), if_neg (show ¬ c = Int32.ofInt 98 by rw [g]; decide), if_neg (not_not_intro g)]
theorem z_rc_no {e : Nat} {S : v_Sf} {c : Int32} (hh : f_X5_here S = c) (g1 : ¬ z_aln c) (g2 : ¬ z_amt c) : g_X5_readClause e S = g_X5_fail (Int32.ofInt 1) (S 66 4) S := by
  unfold g_X5_readClause
  rw [hh, if_neg (fun q => g1 (Or.inl q)), if_pos (fun q => g1 (Or.inr q)), if_neg (fun q => g2 (Or.inl q)), if_neg (fun q => g2 (Or.inr (Or.inl q))), if_neg (fun q => g2 (Or.inr (Or.inr (Or.inl q)))), if_pos (fun q => g2 (Or.inr (Or.inr (Or.inr q))))]
theorem z_143_bad {T : v_Sf} (x1 x2 : Int32) (h : ¬ T 99 5 = 0) : j_X12_clause_143 x1 x2 T 99 5 = T 99 5 := by
  unfold j_X12_clause_143
  rw [if_pos (z_bad (by rw [z_sn (by omega)]; exact h))]
  unfold j_X12_clause_167
  rw [z_sn (by omega), z_sn (by omega), z_sn (by omega)]
theorem z_64_bad {T : v_Sf} (x1 x2 : Int32) (h : ¬ T 99 5 = 0) : j_X12_clause_64 x1 x2 T = T := by
  unfold j_X12_clause_64
  rw [if_neg (not_not_intro (z_bad h))]
theorem z_whole_fail {e : Nat} (he : z_cd e) {w : Nat → Int32} {n : Nat} {S : v_Sf} {p k : Nat} (hC : z_pc e w S p n k) (g : ¬ z_hc w p n = Int32.ofInt 40) : g_X5_readWhole e S 66 6 = z_phi 1 p := by
  have hcd := z_cdn he
  have hC1 : z_pc e w (g_X1_openCondition e S) p n k := by
    unfold g_X1_openCondition
    split
    · exact hC
    · exact z_pc_w hC (fun a j q => z_sn (by omega))
  have e1 : g_rdB6 e (Int32.ofInt 0) (g_X1_openCondition e S) 66 6 = z_phi 1 p := by
    unfold g_rdB6 g_readBracketF F_readBracketF
    rw [z_pc_here hC1, if_neg g]
    exact z_c_fail hC1 1
  unfold g_X5_readWhole g_X1_closeClause
  split
  · rw [z_sk_put he]
    exact e1
  · rw [z_sn (by omega), z_sk_put he]
    exact e1
noncomputable def z_FC (e k nc : Nat) (S S' : v_Sf) : Prop := ∀ a j, ¬ (a = 66 ∧ (j = 4 ∨ j = 5 ∨ j = 6)) → ¬ (a = e ∧ (j = 6 ∨ j = 7)) → ¬ ((a = e + 1 ∨ a = e + 2) ∧ k ≤ j) → ¬ ((a = e + 4 ∨ a = e + 5 ∨ a = e + 6) ∧ nc ≤ j) → S' a j = S a j
noncomputable def z_FM (m nc : Nat) (T T' : v_Sf) : Prop := ∀ a j, ¬ (a = 99 ∧ (j = 3 ∨ j = 5 ∨ j = 6 ∨ j = 7 ∨ j = 8 ∨ j = 9 ∨ j = 24 ∨ j = 25)) → ¬ ((a = 111 ∨ a = 112) ∧ m ≤ j) → ¬ a = 113 → ¬ ((a = 107 ∨ a = 108 ∨ a = 109 ∨ a = 110) ∧ nc ≤ j) → T' a j = T a j
theorem z_clause_ok {e : Nat} (he : z_cd e) {w : Nat → Int32} (hw : z_by w) {n : Nat} {S T : v_Sf} {p k m nc : Nat} (hC : z_pc e w S p n k) (hM : z_px w T p n m) (hkp : k ≤ p) (hc : S e 7 = z_i nc) (hm : T 99 6 = z_i nc) (hnc : nc ≤ 16) :
    (g_X5_readClause e S 66 6 < 0 ∧ g_X12_clause (Int32.ofInt 0) T 99 5 = g_X5_readClause e S 66 6) ∨
    (∃ p' k' m', z_pc e w (g_X5_readClause e S) p' n k' ∧ z_px w (g_X12_clause (Int32.ofInt 0) T) p' n m' ∧ (p < p' ∧ k ≤ k' ∧ m ≤ m' ∧ k' ≤ p') ∧ nc < 16 ∧ g_X5_readClause e S e 7 = z_i (nc + 1) ∧ g_X12_clause (Int32.ofInt 0) T 99 6 = z_i (nc + 1) ∧ z_FC e k nc S (g_X5_readClause e S) ∧ z_FM m nc T (g_X12_clause (Int32.ofInt 0) T) ∧ g_X5_readClause e S (e + 4) nc = g_X12_clause (Int32.ofInt 0) T 107 nc ∧ (¬ z_aln (g_X12_clause (Int32.ofInt 0) T 107 nc) → z_clA e (g_X5_readClause e S) (g_X12_clause (Int32.ofInt 0) T) nc k' m') ∧ z_clC e (g_X5_readClause e S) (g_X12_clause (Int32.ofInt 0) T) nc k' m') := by
  have hcd := z_cdn he
  have hhC := z_pc_here hC
  have hhM := z_px_here hM
  have hn := z_pc_n hC
  have ht5 : T 99 5 = 0 := hM.2.2.2.1
  by_cases gg : z_aln (z_hc w p n) ∨ z_amt (z_hc w p n)
  · have gm : z_aln (z_hm w p n) ∨ z_amt (z_hm w p n) := gg.elim (fun q => Or.inl (z_aln_h.mp q)) (fun q => Or.inr (z_amt_h.mp q))
    have hlt : p < n := by
      rcases gg with (q | q) | q | q | q | q <;> exact z_hlt (by decide) q
    have EM : g_X12_clause (Int32.ofInt 0) T = j_X12_clause_37 (Int32.ofInt 0) (w p) T := by
      unfold g_X12_clause F_X12_clause
      rw [if_pos (by decide), hhM, if_pos (z_isCl.mpr gm), z_hml hlt]
    by_cases g16 : nc = 16
    · have eC : g_X5_readClause e S = g_X5_fail (Int32.ofInt 4) (S 66 4) S := by
        have n16 : ¬ S e 7 < Int32.ofInt 16 := by
          rw [hc, g16]
          decide
        rcases gg with q | q
        · rw [z_rc_aln hhC q, if_neg n16]
        · rw [z_rc_amt hhC q, if_neg n16]
      have n4 : z_phi 4 p < 0 := z_phi_n (by decide) (by omega)
      refine Or.inl ⟨by rw [eC, z_c_fail hC 4]; exact n4, ?_⟩
      rw [EM, eC, z_c_fail hC 4]
      unfold j_X12_clause_37
      rw [if_pos (by decide), hm, g16, if_neg (by decide), z_px_wrong hM, z_64_bad _ _ (by rw [z_ss]; exact z_ng n4), z_ss]
    · have hlt16 : nc < 16 := by omega
      have enc : (z_i nc).toInt.toNat = nc := z_iin (by omega)
      have l16 : S e 7 < Int32.ofInt 16 := by
        rw [hc, show Int32.ofInt 16 = z_i 16 from rfl, z_ilt (by omega) (by omega)]
        exact hlt16
      have n16 : ¬ T 99 6 = Int32.ofInt 16 := by
        rw [hm, show Int32.ofInt 16 = z_i 16 from rfl, z_inj (by omega) (by omega)]
        exact g16
      have c1 := z_c_adv he hC hlt
      have E1 : g_X1_openClause e (w p) (z_s S 66 4 ((S 66 4) + (Int32.ofInt 1))) = z_s (z_s (z_s S 66 4 ((S 66 4) + (Int32.ofInt 1))) (e + 4) nc (w p)) (e + 5) nc (z_i k) := by
        unfold g_X1_openClause
        rw [z_sn (a := 66) (i := 4) (b := e) (j := 7) (by omega), hc, if_neg (by rw [show Int32.ofInt 16 = z_i 16 from rfl, z_ile (by omega) (by omega)]; omega), enc, c1.1.2.2.2.2.2.1]
      generalize hS1 : z_s (z_s (z_s S 66 4 ((S 66 4) + (Int32.ofInt 1))) (e + 4) nc (w p)) (e + 5) nc (z_i k) = S1 at E1
      have cS1 : z_pc e w S1 (p + 1) n k := by
        rw [← hS1]
        exact z_pc_w c1.1 (fun a j q => by rw [z_sn (by omega), z_sn (by omega)])
      have fS1 : ∀ a j, ¬ (a = 66 ∧ j = 4) → ¬ ((a = e + 4 ∨ a = e + 5) ∧ j = nc) → S1 a j = S a j := by
        intro a j q1 q2
        rw [← hS1, z_sn (by omega), z_sn (by omega), z_sn (by omega)]
      have s4 : S1 (e + 4) nc = w p := by rw [← hS1, z_sn (by omega), z_ss]
      have s5 : S1 (e + 5) nc = z_i k := by rw [← hS1, z_ss]
      have s7 : S1 e 7 = z_i nc := by rw [fS1 _ _ (by omega) (by omega), hc]
      generalize hT1 : z_s (z_s (z_s (z_s (z_s T 107 nc (w p)) 108 nc (z_i m)) 99 3 (z_i (p + 1))) 99 9 (Int32.ofInt 0)) 99 8 (Int32.ofInt 0) = T1
      have mT1 : z_pm w T1 (p + 1) n m 0 0 := by
        rw [← hT1]
        refine z_pm_of hM (by omega) (by omega) (fun b j q => by rw [z_sn (by omega), z_sn (by omega), z_sn (by omega), z_sn (by omega), z_sn (by omega)]) ?_ z_ss ?_
        · rw [z_sn (by omega), z_sn (by omega), z_ss]
        · rw [z_sn (by omega)]
          exact z_ss
      have fT1 : ∀ a j, ¬ (a = 99 ∧ (j = 3 ∨ j = 8 ∨ j = 9)) → ¬ ((a = 107 ∨ a = 108) ∧ j = nc) → T1 a j = T a j := by
        intro a j q1 q2
        rw [← hT1, z_sn (by omega), z_sn (by omega), z_sn (by omega), z_sn (by omega), z_sn (by omega)]
      have t7 : T1 107 nc = w p := by rw [← hT1, z_sn (by omega), z_sn (by omega), z_sn (by omega), z_sn (by omega), z_ss]
      have t8 : T1 108 nc = z_i m := by rw [← hT1, z_sn (by omega), z_sn (by omega), z_sn (by omega), z_ss]
      have t6 : T1 99 6 = z_i nc := by rw [fT1 _ _ (by omega) (by omega), hm]
      have EM2 : g_X12_clause (Int32.ofInt 0) T = (if w p = Int32.ofInt 101 then j_X12_clause_143 (Int32.ofInt 0) (w p) T1 else (if w p = Int32.ofInt 120 then j_X12_clause_143 (Int32.ofInt 0) (w p) T1 else j_X12_clause_143 (Int32.ofInt 0) (w p) (g_X12_value T1))) := by
        rw [EM]
        unfold j_X12_clause_37 j_X12_clause_64
        rw [if_pos (show Int32.ofInt 0 = 0 by decide), if_pos n16, if_pos (z_good1 ht5), if_pos (show Int32.ofInt 0 = 0 by decide), hm, enc, hM.2.2.2.2.1, hM.2.1, z_i1, hT1]
      by_cases ga : z_aln (w p)
      · have EM3 : g_X12_clause (Int32.ofInt 0) T = j_X12_clause_143 (Int32.ofInt 0) (w p) T1 := by
          rw [EM2]
          rcases ga with q | q
          · rw [if_pos q]
          · rw [if_neg (by rw [q]; decide), if_pos q]
        have EC : g_X5_readClause e S = g_X5_readWhole e S1 := by
          rw [z_rc_aln (by rw [hhC, z_hcl hlt]) ga, if_pos l16, E1]
        rw [EM3, EC]
        rcases z_whole_ok he hw (Int32.ofInt 0) (w p) cS1 mT1 (by omega) s7 t6 hlt16 with f | ⟨p', k', m', b1, b2, b3, b4, b5, b6, b7, b8, b9⟩
        · exact Or.inl f
        · have x4 : g_X5_readWhole e S1 (e + 4) nc = w p := by rw [b6 _ _ (by omega) (by omega) (by omega) (by omega), s4]
          have x7 : j_X12_clause_143 (Int32.ofInt 0) (w p) T1 107 nc = w p := by rw [b7 _ _ (by omega) (by omega) (by omega) (by omega), t7]
          refine Or.inr ⟨p', k', m', b1, z_px_of b2, ⟨by omega, by omega, by omega, by omega⟩, hlt16, b4, b5, fun a j q1 q2 q3 q4 => ?_, fun a j q1 q2 q3 q4 => ?_, by rw [x4, x7], fun q => absurd (by rw [x7]; exact ga) q, b9⟩
          · rw [b6 a j q1 q2 q3 (by omega), fS1 _ _ (by omega) (by omega)]
          · rw [b7 a j q1 q2 q3 (by omega), fT1 _ _ (by omega) (by omega)]
      · have gt : z_amt (z_hc w p n) := gg.resolve_left (fun q => ga (by rw [z_hcl hlt] at q; exact q))
        have EM3 : g_X12_clause (Int32.ofInt 0) T = j_X12_clause_143 (Int32.ofInt 0) (w p) (g_X12_value T1) := by
          rw [EM2, if_neg (fun q => ga (Or.inl q)), if_neg (fun q => ga (Or.inr q))]
        have EC : g_X5_readClause e S = g_X5_readWhole e (g_X1_put e (Int32.ofInt 0) (Int32.ofInt 0) (g_rdS e 6 (z_i 0) S1)) := by
          rw [z_rc_amt hhC gt, if_pos l16, z_hcl hlt, E1]
          rfl
        have tp : f_X12_top T1 = Int32.ofInt 0 := z_top0 mT1.2.2.2.2.2.2.1
        rw [EM3, EC]
        rcases z_rdS_ok he hw 6 0 (by omega) (by omega) S1 T1 (p + 1) k m 0 cS1 mT1 (by omega) (by rw [tp]; unfold z_tms; decide) (by rw [tp]; unfold z_pls; decide) with ⟨f1, U, f2, f3⟩ | ⟨T2, p2, k2, m2, D2, ⟨o1, o2, o3, o4, o5, o6, o7⟩, o8, o9, o10, o11⟩
        · have f4 := z_sk_whole he (g_X1_put e (Int32.ofInt 0) (Int32.ofInt 0) (g_rdS e 6 (z_i 0) S1)) (by rw [z_sk_put he]; exact f1)
          rw [z_sk_put he] at f4
          refine Or.inl ⟨by rw [f4]; exact f1, ?_⟩
          rw [f4, z_val_bad (z_pm_25 mT1) f2, z_143_bad _ _ (by rw [f3]; exact z_ng f1)]
          exact f3
        · have hn2 := z_pc_n o1
          have tt : f_X12_top T2 = Int32.ofInt 0 := by rw [z_top_fr mT1 o2 o5, tp]
          have c3 := z_c_put he o1 (by omega) (Int32.ofInt 0) (Int32.ofInt 0)
          rcases z_val (z_pm_25 mT1) o2 o9 o10 (by rw [tt]; unfold z_tms; decide) (by rw [tt]; unfold z_pls; decide) (by rw [tt]; decide) o11 with ⟨q1, q2⟩ | ⟨q1, q2⟩
          · have n2 : z_phi 1 p2 < 0 := z_phi_n (by decide) (by omega)
            have f4 := z_whole_fail he c3.1 (by rw [q1]; decide)
            refine Or.inl ⟨by rw [f4]; exact n2, ?_⟩
            rw [f4, q2, z_143_bad _ _ (by rw [z_ss]; exact z_ng n2), z_ss]
          · rw [q2]
            generalize hX : g_X1_put e (Int32.ofInt 0) (Int32.ofInt 0) (g_rdS e 6 (z_i 0) S1) = X at *
            have fX : ∀ a j, ¬ (a = 66 ∧ (j = 4 ∨ j = 5 ∨ j = 6)) → ¬ (a = e ∧ j = 6) → ¬ ((a = e + 1 ∨ a = e + 2) ∧ k ≤ j) → X a j = S1 a j := fun a j q1 q2 q3 => (c3.2.1 a j q1 q2 (by omega)).trans (o4 a j q1 q2 q3)
            have x7 : X e 7 = z_i nc := by rw [fX _ _ (by omega) (by omega) (by omega), s7]
            have y6 : T2 99 6 = z_i nc := by rw [o5 _ _ (by omega) (by omega) (by omega), t6]
            rcases z_whole_ok he hw (Int32.ofInt 0) (w p) c3.1 o2 (by omega) x7 y6 hlt16 with f | ⟨p', k', m', b1, b2, b3, b4, b5, b6, b7, b8, b9⟩
            · exact Or.inl f
            · have x4 : g_X5_readWhole e X (e + 4) nc = w p := by rw [b6 _ _ (by omega) (by omega) (by omega) (by omega), fX _ _ (by omega) (by omega) (by omega), s4]
              have y7 : j_X12_clause_143 (Int32.ofInt 0) (w p) T2 107 nc = w p := by rw [b7 _ _ (by omega) (by omega) (by omega) (by omega), o5 _ _ (by omega) (by omega) (by omega), t7]
              refine Or.inr ⟨p', k', m', b1, z_px_of b2, ⟨by omega, by omega, by omega, by omega⟩, hlt16, b4, b5, fun a j q1 q2 q3 q4 => ?_, fun a j q1 q2 q3 q4 => ?_, by rw [x4, y7], fun _ => ⟨k, k2, m, m2, D2, ?_, ?_, b8, by omega, by omega, ?_, z_segC_h (z_segC_a o6 (fun x hx hy => ⟨?_, ?_⟩)) (by decide), z_segM_a o7 (fun x hx hy => ⟨?_, ?_⟩)⟩, b9⟩
              · rw [b6 a j q1 q2 (by omega) (by omega), fX a j q1 (by omega) q3, fS1 _ _ (by omega) (by omega)]
              · rw [b7 a j q1 (by omega) q3 (by omega), o5 a j (by omega) q2 (by omega), fT1 _ _ (by omega) (by omega)]
              · rw [b6 _ _ (by omega) (by omega) (by omega) (by omega), fX _ _ (by omega) (by omega) (by omega), s5]
              · rw [b7 _ _ (by omega) (by omega) (by omega) (by omega), o5 _ _ (by omega) (by omega) (by omega), t8]
              · rw [b6 _ _ (by omega) (by omega) (by omega) (by omega)]
                exact c3.2.2.1
              · rw [b6 _ _ (by omega) (by omega) (by omega) (by omega), c3.2.1 _ _ (by omega) (by omega) (by omega)]
              · rw [b6 _ _ (by omega) (by omega) (by omega) (by omega), c3.2.1 _ _ (by omega) (by omega) (by omega)]
              · exact b7 _ _ (by omega) (by omega) (by omega) (by omega)
              · exact b7 _ _ (by omega) (by omega) (by omega) (by omega)
  · have g1 : ¬ z_aln (z_hc w p n) := fun q => gg (Or.inl q)
    have g2 : ¬ z_amt (z_hc w p n) := fun q => gg (Or.inr q)
    have n1 : z_phi 1 p < 0 := z_phi_n (by decide) (by omega)
    have eC := z_rc_no (e := e) hhC g1 g2
    refine Or.inl ⟨by rw [eC, z_c_fail hC 1]; exact n1, ?_⟩
    rw [eC, z_c_fail hC 1]
    unfold g_X12_clause F_X12_clause
    rw [if_pos (by decide), hhM, if_neg (by rw [z_isCl]; exact fun q => q.elim (fun q => g1 (z_aln_h.mpr q)) (fun q => g2 (z_amt_h.mpr q)))]
    unfold j_X12_clause_25
    rw [z_px_wrong hM, z_64_bad _ _ (by rw [z_ss]; exact z_ng n1), z_ss]
theorem z_rule_ok {e : Nat} (he : z_cd e) {w : Nat → Int32} (hw : z_by w) {n : Nat} {S T : v_Sf} {p k m nc : Nat} (hC : z_pc e w S p n k) (hM : z_px w T p n m) (hkp : k ≤ p) (hc : S e 7 = z_i nc) (hm : T 99 6 = z_i nc) (hnc : nc ≤ 12) :
    (g_X5_readRule e S 66 6 < 0 ∧ g_X12_clause (Int32.ofInt 1) T 99 5 = g_X5_readRule e S 66 6) ∨
    (∃ p' k' m', z_pc e w (g_X5_readRule e S) p' n k' ∧ z_px w (g_X12_clause (Int32.ofInt 1) T) p' n m' ∧ (p < p' ∧ k ≤ k' ∧ m ≤ m' ∧ k' ≤ p') ∧ nc < 12 ∧ g_X5_readRule e S e 7 = z_i (nc + 1) ∧ g_X12_clause (Int32.ofInt 1) T 99 6 = z_i (nc + 1) ∧ z_FC e k nc S (g_X5_readRule e S) ∧ z_FM m nc T (g_X12_clause (Int32.ofInt 1) T)) := by
  have hcd := z_cdn he
  have hhC := z_pc_here hC
  have hhM := z_px_here hM
  have hn := z_pc_n hC
  have ht5 : T 99 5 = 0 := hM.2.2.2.1
  have enc : (z_i nc).toInt.toNat = nc := z_iin (by omega)
  have E1 : g_X1_openClause e (Int32.ofInt 114) S = z_s (z_s S (e + 4) nc (Int32.ofInt 114)) (e + 5) nc (z_i k) := by
    unfold g_X1_openClause
    rw [hc, if_neg (by rw [show Int32.ofInt 16 = z_i 16 from rfl, z_ile (by omega) (by omega)]; omega), enc, hC.2.2.2.2.2.1]
  have cS1 : z_pc e w (z_s (z_s S (e + 4) nc (Int32.ofInt 114)) (e + 5) nc (z_i k)) p n k := z_pc_w hC (fun a j q => by rw [z_sn (by omega), z_sn (by omega)])
  by_cases g : z_hc w p n = Int32.ofInt 40
  · have hlt := z_hlt (by decide) g
    have gm := (z_hcm (by decide)).mp g
    have EM : g_X12_clause (Int32.ofInt 1) T = j_X12_clause_37 (Int32.ofInt 1) (z_hm w p n) T := by
      unfold g_X12_clause F_X12_clause
      rw [if_neg (by decide), hhM, if_pos gm]
    by_cases g12 : nc = 12
    · have n4 : z_phi 4 p < 0 := z_phi_n (by decide) (by omega)
      have eC : g_X5_readRule e S = g_X5_fail (Int32.ofInt 4) (S 66 4) S := by
        unfold g_X5_readRule
        rw [hhC, if_neg (not_not_intro g), hc, g12, if_neg (by decide)]
      refine Or.inl ⟨by rw [eC, z_c_fail hC 4]; exact n4, ?_⟩
      rw [EM, eC, z_c_fail hC 4]
      unfold j_X12_clause_37
      rw [if_neg (show ¬ Int32.ofInt 1 = 0 by decide), hm, g12, if_neg (by decide), z_px_wrong hM, z_64_bad _ _ (by rw [z_ss]; exact z_ng n4), z_ss]
    · have n12 : ¬ T 99 6 = Int32.ofInt 12 := by
        rw [hm, show Int32.ofInt 12 = z_i 12 from rfl, z_inj (by omega) (by omega)]
        exact g12
      have EC : g_X5_readRule e S = g_X5_readWhole e (z_s (z_s S (e + 4) nc (Int32.ofInt 114)) (e + 5) nc (z_i k)) := by
        unfold g_X5_readRule
        rw [hhC, if_neg (not_not_intro g), hc, if_pos (by rw [show Int32.ofInt 12 = z_i 12 from rfl, z_ilt (by omega) (by omega)]; omega), E1]
      generalize hS1 : z_s (z_s S (e + 4) nc (Int32.ofInt 114)) (e + 5) nc (z_i k) = S1 at *
      have fS1 : ∀ a j, ¬ ((a = e + 4 ∨ a = e + 5) ∧ j = nc) → S1 a j = S a j := by
        intro a j q2
        rw [← hS1, z_sn (by omega), z_sn (by omega)]
      generalize hT1 : z_s (z_s (z_s (z_s (z_s T 107 nc (z_hm w p n)) 108 nc (z_i m)) 99 3 (z_i p + Int32.ofInt 0)) 99 9 (Int32.ofInt 0)) 99 8 (Int32.ofInt 0) = T1
      have mT1 : z_pm w T1 p n m 0 0 := by
        rw [← hT1]
        refine z_pm_of hM (by omega) (by omega) (fun b j q => by rw [z_sn (by omega), z_sn (by omega), z_sn (by omega), z_sn (by omega), z_sn (by omega)]) ?_ z_ss ?_
        · rw [z_sn (by omega), z_sn (by omega), z_ss, show Int32.ofInt 0 = 0 by decide, Int32.add_zero]
        · rw [z_sn (by omega)]
          exact z_ss
      have fT1 : ∀ a j, ¬ (a = 99 ∧ (j = 3 ∨ j = 8 ∨ j = 9)) → ¬ ((a = 107 ∨ a = 108) ∧ j = nc) → T1 a j = T a j := by
        intro a j q1 q2
        rw [← hT1, z_sn (by omega), z_sn (by omega), z_sn (by omega), z_sn (by omega), z_sn (by omega)]
      have t6 : T1 99 6 = z_i nc := by rw [fT1 _ _ (by omega) (by omega), hm]
      have s7 : S1 e 7 = z_i nc := by rw [fS1 _ _ (by omega), hc]
      have EM3 : g_X12_clause (Int32.ofInt 1) T = j_X12_clause_143 (Int32.ofInt 1) (z_hm w p n) T1 := by
        rw [EM]
        unfold j_X12_clause_37 j_X12_clause_64
        rw [if_neg (show ¬ Int32.ofInt 1 = 0 by decide), if_pos n12, if_pos (z_good1 ht5), if_neg (show ¬ Int32.ofInt 1 = 0 by decide), hm, enc, hM.2.2.2.2.1, hM.2.1, hT1]
      rw [EM3, EC]
      rcases z_whole_ok he hw (Int32.ofInt 1) (z_hm w p n) cS1 mT1 (by omega) s7 t6 (by omega) with f | ⟨p', k', m', b1, b2, b3, b4, b5, b6, b7, b8, b9⟩
      · exact Or.inl f
      · refine Or.inr ⟨p', k', m', b1, z_px_of b2, ⟨by omega, by omega, by omega, by omega⟩, by omega, b4, b5, fun a j q1 q2 q3 q4 => ?_, fun a j q1 q2 q3 q4 => ?_⟩
        · rw [b6 a j q1 q2 q3 (by omega), fS1 _ _ (by omega)]
        · rw [b7 a j q1 q2 q3 (by omega), fT1 _ _ (by omega) (by omega)]
  · have gm : ¬ z_hm w p n = Int32.ofInt 40 := fun q => g ((z_hcm (by decide)).mpr q)
    have n1 : z_phi 1 p < 0 := z_phi_n (by decide) (by omega)
    have eC : g_X5_readRule e S 66 6 = z_phi 1 p := by
      unfold g_X5_readRule
      rw [hhC, if_pos g, E1]
      exact z_whole_fail he cS1 g
    refine Or.inl ⟨by rw [eC]; exact n1, ?_⟩
    rw [eC]
    unfold g_X12_clause F_X12_clause
    rw [if_neg (by decide), hhM, if_neg gm]
    unfold j_X12_clause_25
    rw [z_px_wrong hM, z_64_bad _ _ (by rw [z_ss]; exact z_ng n1), z_ss]
