/-! texts: both readers -/
theorem z_sk_open {e : Nat} (he : z_cd e) (c : Int32) (S : v_Sf) : g_X1_openClause e c S 66 6 = S 66 6 := by
  have hcd := z_cdn he
  unfold g_X1_openClause
  split
  · rfl
  · rw [z_sn (by omega), z_sn (by omega)]
theorem z_sk_rule {e : Nat} (he : z_cd e) : z_sk (g_X5_readRule e) := by
  intro S h
  have k := z_sk_whole he (g_X1_openClause e (Int32.ofInt 114) S) (by rw [z_sk_open he]; exact h)
  rw [z_sk_open he] at k
  unfold g_X5_readRule
  split
  · exact k
  · split
    · exact k
    · exact z_sk_fail h
theorem z_sk_clause {e : Nat} (he : z_cd e) : z_sk (g_X5_readClause e) := by
  intro S h
  by_cases g1 : z_aln (f_X5_here S)
  · rw [z_rc_aln rfl g1]
    split
    · rw [z_sk_whole he _ (by rw [z_sk_open he, z_sk_adv]; exact h), z_sk_open he, z_sk_adv]
    · exact z_sk_fail h
  · by_cases g2 : z_amt (f_X5_here S)
    · rw [z_rc_amt rfl g2]
      split
      · have k1 : g_X1_openClause e (f_X5_here S) (z_s S 66 4 ((S 66 4) + (Int32.ofInt 1))) 66 6 = S 66 6 := by rw [z_sk_open he, z_sk_adv]
        have k2 := z_sk_rdS he 6 (Int32.ofInt 0) (g_X1_openClause e (f_X5_here S) (z_s S 66 4 ((S 66 4) + (Int32.ofInt 1)))) (by rw [k1]; exact h)
        have k3 : g_X1_put e (Int32.ofInt 0) (Int32.ofInt 0) (g_rdS6 e (Int32.ofInt 0) (g_X1_openClause e (f_X5_here S) (z_s S 66 4 ((S 66 4) + (Int32.ofInt 1))))) 66 6 = S 66 6 := by
          rw [z_sk_put he]
          exact k2.trans k1
        rw [z_sk_whole he _ (by rw [k3]; exact h), k3]
      · exact z_sk_fail h
    · rw [z_rc_no rfl g1 g2]
      exact z_sk_fail h
theorem z_sk_text {e : Nat} (he : z_cd e) (x : Int32) : ∀ (r kk : Nat) (S : v_Sf), S 66 6 < 0 → (r_X5_readText_7 e x r kk S).1 = S 66 6 := by
  intro r
  induction r with
  | zero =>
    intro kk S h
    rw [r_X5_readText_7, if_neg (z_ng h)]
  | succ r ih =>
    intro kk S h
    have k1 := z_sk_rule he S h
    have k2 := z_sk_clause he S h
    rw [r_X5_readText_7]
    split
    · split
      · rw [ih _ _ (by rw [z_sk_expect (by rw [k1]; exact h), k1]; exact h), z_sk_expect (by rw [k1]; exact h), k1]
      · rw [k1, if_neg (z_ng h)]
    · split
      · rw [ih _ _ (by rw [z_sk_expect (by rw [k2]; exact h), k2]; exact h), z_sk_expect (by rw [k2]; exact h), k2]
      · rw [k2, if_neg (z_ng h)]
theorem z_t_bad {C : v_Sf} (b x : Int32) (h : C 99 5 < 0) : s_X12_takesText_17 b x C = Sum.inr (C 99 5, C) := by
  have n0 : ¬ 0 ≤ C 99 5 := by
    rw [Int32.le_iff_toInt_le]
    have := Int32.lt_iff_toInt_lt.mp h
    omega
  unfold s_X12_takesText_17
  by_cases g : x = 0
  · rw [if_pos g, if_neg n0]
  · rw [if_neg g, if_pos (z_bad (z_ng h)), if_neg n0]
theorem z_t_step {T : v_Sf} (b : Int32) (h : T 99 5 = 0) : s_X12_takesText_17 b (Int32.ofInt 1) T = (if (f_X12_isGood (g_X12_clause b T)) = 0 then (Sum.inl ((Int32.ofInt 0), (g_X12_clause b T))) else (if ((g_X12_clause b T) 99 4) ≤ ((g_X12_clause b T) 99 3) then (Sum.inl ((Int32.ofInt 0), (g_X12_clause b T))) else (if (f_X12_here (g_X12_clause b T)) = (Int32.ofInt 59) then (Sum.inl ((Int32.ofInt 1), (z_s (g_X12_clause b T) 99 3 (((g_X12_clause b T) 99 3) + (Int32.ofInt 1))))) else (Sum.inl ((Int32.ofInt 1), (z_s (g_X12_wrongs (Int32.ofInt 1) ((g_X12_clause b T) 99 3) (g_X12_clause b T)) 99 3 (((g_X12_wrongs (Int32.ofInt 1) ((g_X12_clause b T) 99 3) (g_X12_clause b T)) 99 3) + (Int32.ofInt 1)))))))) := by
  unfold s_X12_takesText_17
  rw [if_neg (show ¬ Int32.ofInt 1 = 0 by decide), if_neg (z_good1 h)]
noncomputable def z_fr6 (T U : v_Sf) : Prop := ∀ a j, ¬ (a = 99 ∧ (j = 3 ∨ j = 5 ∨ j = 6 ∨ j = 7 ∨ j = 8 ∨ j = 9 ∨ j = 24 ∨ j = 25)) → ¬ (107 ≤ a ∧ a ≤ 113) → U a j = T a j
theorem z_fr6_t {T U V : v_Sf} (h1 : z_fr6 T U) (h2 : z_fr6 U V) : z_fr6 T V := fun a j q1 q2 => (h2 a j q1 q2).trans (h1 a j q1 q2)
noncomputable def z_TI (e : Nat) (w : Nat → Int32) (n : Nat) (S T : v_Sf) (p k m nc : Nat) : Prop := z_pc e w S p n k ∧ z_px w T p n m ∧ k ≤ p ∧ S e 7 = z_i nc ∧ T 99 6 = z_i nc ∧ nc ≤ 16
noncomputable def z_CLs (e : Nat) (S T : v_Sf) (nc k m : Nat) : Prop := ∀ j, j < nc → S (e + 4) j = T 107 j ∧ (¬ z_aln (T 107 j) → z_clA e S T j k m) ∧ z_clC e S T j k m
theorem z_CLs_t {e : Nat} (he : z_cd e) {S S' T T' : v_Sf} {nc k m k' m' : Nat} (h : z_CLs e S T nc k m) (f1 : z_FC e k nc S S') (f2 : z_FM m nc T T') (hk : k ≤ k') (hm : m ≤ m') : z_CLs e S' T' nc k' m' := by
  have hcd := z_cdn he
  intro j hj
  obtain ⟨a1, a2, a3⟩ := h j hj
  have e107 : T' 107 j = T 107 j := f2 _ _ (by omega) (by omega) (by omega) (by omega)
  refine ⟨?_, fun q => ?_, ?_⟩
  · rw [f1 _ _ (by omega) (by omega) (by omega) (by omega), e107]
    exact a1
  · rw [e107] at q
    obtain ⟨k0, k1, m0, m1, D, b1, b2, b3, b4, b5, b6, b7, b8⟩ := a2 q
    refine ⟨k0, k1, m0, m1, D, ?_, ?_, ?_, by omega, by omega, ?_, z_segC_a b7 (fun x hx hy => ⟨f1 _ _ (by omega) (by omega) (by omega) (by omega), f1 _ _ (by omega) (by omega) (by omega) (by omega)⟩), z_segM_a b8 (fun x hx hy => ⟨f2 _ _ (by omega) (by omega) (by omega) (by omega), f2 _ _ (by omega) (by omega) (by omega) (by omega)⟩)⟩
    · rw [f1 _ _ (by omega) (by omega) (by omega) (by omega)]
      exact b1
    · rw [f2 _ _ (by omega) (by omega) (by omega) (by omega)]
      exact b2
    · rw [f2 _ _ (by omega) (by omega) (by omega) (by omega)]
      exact b3
    · rw [f1 _ _ (by omega) (by omega) (by omega) (by omega)]
      exact b6
  · obtain ⟨k1, k2, m1, m2, D, b1, b2, b3, b4, b5, b6, b7, b8, b9⟩ := a3
    refine ⟨k1, k2, m1, m2, D, ?_, ?_, ?_, by omega, by omega, ?_, z_segC_a b7 (fun x hx hy => ⟨f1 _ _ (by omega) (by omega) (by omega) (by omega), f1 _ _ (by omega) (by omega) (by omega) (by omega)⟩), z_segM_a b8 (fun x hx hy => ⟨f2 _ _ (by omega) (by omega) (by omega) (by omega), f2 _ _ (by omega) (by omega) (by omega) (by omega)⟩), b9⟩
    · rw [f1 _ _ (by omega) (by omega) (by omega) (by omega)]
      exact b1
    · rw [f2 _ _ (by omega) (by omega) (by omega) (by omega)]
      exact b2
    · rw [f2 _ _ (by omega) (by omega) (by omega) (by omega)]
      exact b3
    · rw [f1 _ _ (by omega) (by omega) (by omega) (by omega)]
      exact b6
theorem z_text_law {e : Nat} (he : z_cd e) {w : Nat → Int32} (hw : z_by w) {n : Nat} : ∀ (r kk : Nat) (S T : v_Sf) (p k m nc : Nat), z_TI e w n S T p k m nc → nc ≤ 16 → z_CLs e S T nc k m → n - p + 1 ≤ 2 * r →
    ((r_X5_readText_7 e (Int32.ofInt 1) r kk S).1 < 0 ∧ ∃ U, (∃ N, z_itr (fun p : Int32 × v_Sf => s_X12_takesText_17 (Int32.ofInt 0) p.1 p.2) N (Int32.ofInt 1, T) = some ((r_X5_readText_7 e (Int32.ofInt 1) r kk S).1, U)) ∧ z_fr6 T U ∧ U 99 25 = 0) ∨
    (∃ S' T' p' k' m' nc', r_X5_readText_7 e (Int32.ofInt 1) r kk S = (z_i nc', S') ∧ 1 ≤ nc' ∧ nc' ≤ 16 ∧ z_TI e w n S' T' p' k' m' nc' ∧ z_CLs e S' T' nc' k' m' ∧ z_fr6 T T' ∧ (∀ Y, (∃ N, z_itr (fun p : Int32 × v_Sf => s_X12_takesText_17 (Int32.ofInt 0) p.1 p.2) N (Int32.ofInt 0, T') = some Y) → ∃ N, z_itr (fun p : Int32 × v_Sf => s_X12_takesText_17 (Int32.ofInt 0) p.1 p.2) N (Int32.ofInt 1, T) = some Y)) := by
  have hcd := z_cdn he
  intro r
  induction r with
  | zero =>
    intro kk S T p k m nc hI hl hcl hr
    omega
  | succ r ih =>
    intro kk S T p k m nc hI hl hcl hr
    obtain ⟨hC, hM, hkp, hc, hm, hnc⟩ := hI
    have ht5 : T 99 5 = 0 := hM.2.2.2.1
    have fr := z_clause_fr (Int32.ofInt 0) T
    have k25 := z_k25_clause (T := T) (Int32.ofInt 0) hM.2.2.2.2.2.1
    have E : r_X5_readText_7 e (Int32.ofInt 1) (r + 1) kk S = (if ((g_X5_readClause e S) 66 4) < ((g_X5_readClause e S) 66 5) then r_X5_readText_7 e (Int32.ofInt 1) r (kk + 1) (g_X5_expect (Int32.ofInt 59) (g_X5_readClause e S)) else (if ((g_X5_readClause e S) 66 6) = 0 then ((g_X5_readClause e S) e 7, g_X5_readClause e S) else ((g_X5_readClause e S) 66 6, g_X5_readClause e S))) := by
      rw [r_X5_readText_7, if_neg (show ¬ Int32.ofInt 1 = 0 by decide)]
    have st := z_t_step (Int32.ofInt 0) ht5
    rcases z_clause_ok he hw hC hM hkp hc hm hnc with ⟨f1, f2⟩ | ⟨p1, k1, m1, b1, b2, b3, b4, b5, b6, b7, b8, b9, b10, b11⟩
    · have f3 : g_X12_clause (Int32.ofInt 0) T 99 5 < 0 := by
        rw [f2]
        exact f1
      have e1 : (r_X5_readText_7 e (Int32.ofInt 1) (r + 1) kk S).1 = g_X5_readClause e S 66 6 := by
        rw [E]
        split
        · have k := z_sk_expect (c := Int32.ofInt 59) f1
          rw [z_sk_text he _ _ _ _ (by rw [k]; exact f1), k]
        · rw [if_neg (z_ng f1)]
      rw [e1]
      refine Or.inl ⟨f1, g_X12_clause (Int32.ofInt 0) T, ⟨2, ?_⟩, fr, k25⟩
      have s1 : s_X12_takesText_17 (Int32.ofInt 0) (Int32.ofInt 1) T = Sum.inl (Int32.ofInt 0, g_X12_clause (Int32.ofInt 0) T) := by
        rw [st, if_pos (z_bad (z_ng f3))]
      rw [z_itr_l (s := fun p : Int32 × v_Sf => s_X12_takesText_17 (Int32.ofInt 0) p.1 p.2) s1, ← f2]
      exact z_itr_r (s := fun p : Int32 × v_Sf => s_X12_takesText_17 (Int32.ofInt 0) p.1 p.2) (z_t_bad _ _ f3)
    · have c5 : g_X12_clause (Int32.ofInt 0) T 99 5 = 0 := b2.2.2.2.1
      have hn1 := z_pc_n b1
      have cl1 : z_CLs e (g_X5_readClause e S) (g_X12_clause (Int32.ofInt 0) T) (nc + 1) k1 m1 := by
        intro j hj
        by_cases q : j = nc
        · rw [q]
          exact ⟨b9, b10, b11⟩
        · exact z_CLs_t he hcl b7 b8 b3.2.1 b3.2.2.1 j (by omega)
      by_cases gl : p1 < n
      · have l1 : g_X5_readClause e S 66 4 < g_X5_readClause e S 66 5 := by
          rw [b1.2.2.1, b1.2.2.2.1, z_ilt (by omega) (by omega)]
          exact gl
        have l2 : ¬ g_X12_clause (Int32.ofInt 0) T 99 4 ≤ g_X12_clause (Int32.ofInt 0) T 99 3 := by
          rw [b2.2.1, b2.2.2.1, z_ile (by omega) (by omega)]
          omega
        rw [if_pos l1] at E
        rw [if_neg (z_good1 c5), if_neg l2, z_px_here b2] at st
        by_cases g59 : z_hc w p1 n = Int32.ofInt 59
        · have gm := (z_hcm (by decide)).mp g59
          have E2 : g_X5_expect (Int32.ofInt 59) (g_X5_readClause e S) = z_s (g_X5_readClause e S) 66 4 ((g_X5_readClause e S) 66 4 + Int32.ofInt 1) := by
            unfold g_X5_expect
            rw [z_pc_here b1, if_neg (not_not_intro g59)]
          rw [E2] at E
          rw [if_pos gm] at st
          have c2 := z_c_adv he b1 gl
          have m2 : z_px w (z_s (g_X12_clause (Int32.ofInt 0) T) 99 3 ((g_X12_clause (Int32.ofInt 0) T) 99 3 + Int32.ofInt 1)) (p1 + 1) n m1 := by
            obtain ⟨a1, a2, a3, a4, a5, a6, a7, a8, a9⟩ := b2
            refine ⟨fun i hi => ?_, ?_, ?_, ?_, ?_, ?_, by omega, by omega, a9⟩
            · rw [z_sn (by omega)]
              exact a1 i hi
            · rw [z_ss, a2, z_i1]
            · rw [z_sn (by omega)]
              exact a3
            · rw [z_sn (by omega)]
              exact a4
            · rw [z_sn (by omega)]
              exact a5
            · rw [z_sn (by omega)]
              exact a6
          have up : ∀ Y, (∃ N, z_itr (fun p : Int32 × v_Sf => s_X12_takesText_17 (Int32.ofInt 0) p.1 p.2) N (Int32.ofInt 1, z_s (g_X12_clause (Int32.ofInt 0) T) 99 3 ((g_X12_clause (Int32.ofInt 0) T) 99 3 + Int32.ofInt 1)) = some Y) → ∃ N, z_itr (fun p : Int32 × v_Sf => s_X12_takesText_17 (Int32.ofInt 0) p.1 p.2) N (Int32.ofInt 1, T) = some Y := by
            rintro Y ⟨N, hN⟩
            exact ⟨N + 1, (z_itr_l (s := fun p : Int32 × v_Sf => s_X12_takesText_17 (Int32.ofInt 0) p.1 p.2) st).trans hN⟩
          have fr2 : z_fr6 T (z_s (g_X12_clause (Int32.ofInt 0) T) 99 3 ((g_X12_clause (Int32.ofInt 0) T) 99 3 + Int32.ofInt 1)) := fun a j q1 q2 => (z_sn (by omega)).trans (fr a j q1 q2)
          rw [E]
          rcases ih (kk + 1) _ _ (p1 + 1) k1 m1 (nc + 1) ⟨c2.1, m2, by omega, by rw [z_sn (by omega)]; exact b5, by rw [z_sn (by omega)]; exact b6, by omega⟩ (by omega) (z_CLs_t he cl1 (fun a j q1 q2 q3 q4 => z_sn (by omega)) (fun a j q1 q2 q3 q4 => z_sn (by omega)) (Nat.le_refl _) (Nat.le_refl _)) (by omega) with ⟨f1, U, f2, f3, f4⟩ | ⟨S', T', p', k', m', nc', c1, c2a, c2b, c3, c3b, c4, c5'⟩
          · exact Or.inl ⟨f1, U, up _ f2, z_fr6_t fr2 f3, f4⟩
          · exact Or.inr ⟨S', T', p', k', m', nc', c1, c2a, c2b, c3, c3b, z_fr6_t fr2 c4, fun Y hY => up Y (c5' Y hY)⟩
        · have gm : ¬ z_hm w p1 n = Int32.ofInt 59 := fun q => g59 ((z_hcm (by decide)).mpr q)
          have n1 : z_phi 1 p1 < 0 := z_phi_n (by decide) (by omega)
          have E2 : g_X5_expect (Int32.ofInt 59) (g_X5_readClause e S) 66 6 = z_phi 1 p1 := by
            unfold g_X5_expect
            rw [z_pc_here b1, if_pos g59]
            exact z_c_fail b1 1
          have e1 : (r_X5_readText_7 e (Int32.ofInt 1) (r + 1) kk S).1 = z_phi 1 p1 := by
            rw [E, z_sk_text he _ _ _ _ (by rw [E2]; exact n1), E2]
          rw [if_neg gm, z_px_wrong b2] at st
          rw [e1]
          refine Or.inl ⟨n1, z_s (z_s (g_X12_clause (Int32.ofInt 0) T) 99 5 (z_phi 1 p1)) 99 3 (z_s (g_X12_clause (Int32.ofInt 0) T) 99 5 (z_phi 1 p1) 99 3 + Int32.ofInt 1), ⟨2, ?_⟩, ?_, ?_⟩
          · have b5' : z_s (z_s (g_X12_clause (Int32.ofInt 0) T) 99 5 (z_phi 1 p1)) 99 3 (z_s (g_X12_clause (Int32.ofInt 0) T) 99 5 (z_phi 1 p1) 99 3 + Int32.ofInt 1) 99 5 = z_phi 1 p1 := by rw [z_sn (by omega), z_ss]
            rw [z_itr_l (s := fun p : Int32 × v_Sf => s_X12_takesText_17 (Int32.ofInt 0) p.1 p.2) st]
            have := z_t_bad (C := z_s (z_s (g_X12_clause (Int32.ofInt 0) T) 99 5 (z_phi 1 p1)) 99 3 (z_s (g_X12_clause (Int32.ofInt 0) T) 99 5 (z_phi 1 p1) 99 3 + Int32.ofInt 1)) (Int32.ofInt 0) (Int32.ofInt 1) (by rw [b5']; exact n1)
            rw [b5'] at this
            exact z_itr_r (s := fun p : Int32 × v_Sf => s_X12_takesText_17 (Int32.ofInt 0) p.1 p.2) this
          · exact fun a j q1 q2 => by rw [z_sn (by omega), z_sn (by omega)]; exact fr a j q1 q2
          · rw [z_sn (by omega), z_sn (by omega)]
            exact k25
      · have l1 : ¬ g_X5_readClause e S 66 4 < g_X5_readClause e S 66 5 := by
          rw [b1.2.2.1, b1.2.2.2.1, z_ilt (by omega) (by omega)]
          exact gl
        have l2 : g_X12_clause (Int32.ofInt 0) T 99 4 ≤ g_X12_clause (Int32.ofInt 0) T 99 3 := by
          rw [b2.2.1, b2.2.2.1, z_ile (by omega) (by omega)]
          omega
        rw [if_neg l1, if_pos (z_pc_5 b1), b5] at E
        rw [if_neg (z_good1 c5), if_pos l2] at st
        refine Or.inr ⟨g_X5_readClause e S, g_X12_clause (Int32.ofInt 0) T, p1, k1, m1, nc + 1, E, by omega, by omega, ⟨b1, b2, b3.2.2.2, b5, b6, by omega⟩, cl1, fr, ?_⟩
        rintro Y ⟨N, hN⟩
        exact ⟨N + 1, (z_itr_l (s := fun p : Int32 × v_Sf => s_X12_takesText_17 (Int32.ofInt 0) p.1 p.2) st).trans hN⟩
theorem z_text_rul {e : Nat} (he : z_cd e) {w : Nat → Int32} (hw : z_by w) {n : Nat} : ∀ (r kk : Nat) (S T : v_Sf) (p k m nc : Nat), z_TI e w n S T p k m nc → nc ≤ 12 → n - p + 1 ≤ 2 * r →
    ((r_X5_readText_7 e (Int32.ofInt 0) r kk S).1 < 0 ∧ ∃ U, (∃ N, z_itr (fun p : Int32 × v_Sf => s_X12_takesText_17 (Int32.ofInt 1) p.1 p.2) N (Int32.ofInt 1, T) = some ((r_X5_readText_7 e (Int32.ofInt 0) r kk S).1, U)) ∧ z_fr6 T U ∧ U 99 25 = 0) ∨
    (∃ S' T' p' k' m' nc', r_X5_readText_7 e (Int32.ofInt 0) r kk S = (z_i nc', S') ∧ 1 ≤ nc' ∧ nc' ≤ 12 ∧ z_TI e w n S' T' p' k' m' nc' ∧ z_fr6 T T' ∧ (∀ Y, (∃ N, z_itr (fun p : Int32 × v_Sf => s_X12_takesText_17 (Int32.ofInt 1) p.1 p.2) N (Int32.ofInt 0, T') = some Y) → ∃ N, z_itr (fun p : Int32 × v_Sf => s_X12_takesText_17 (Int32.ofInt 1) p.1 p.2) N (Int32.ofInt 1, T) = some Y)) := by
  have hcd := z_cdn he
  intro r
  induction r with
  | zero =>
    intro kk S T p k m nc hI hl hr
    omega
  | succ r ih =>
    intro kk S T p k m nc hI hl hr
    obtain ⟨hC, hM, hkp, hc, hm, hnc⟩ := hI
    have ht5 : T 99 5 = 0 := hM.2.2.2.1
    have fr := z_clause_fr (Int32.ofInt 1) T
    have k25 := z_k25_clause (T := T) (Int32.ofInt 1) hM.2.2.2.2.2.1
    have E : r_X5_readText_7 e (Int32.ofInt 0) (r + 1) kk S = (if ((g_X5_readRule e S) 66 4) < ((g_X5_readRule e S) 66 5) then r_X5_readText_7 e (Int32.ofInt 0) r (kk + 1) (g_X5_expect (Int32.ofInt 59) (g_X5_readRule e S)) else (if ((g_X5_readRule e S) 66 6) = 0 then ((g_X5_readRule e S) e 7, g_X5_readRule e S) else ((g_X5_readRule e S) 66 6, g_X5_readRule e S))) := by
      rw [r_X5_readText_7, if_pos (show Int32.ofInt 0 = 0 by decide)]
    have st := z_t_step (Int32.ofInt 1) ht5
    rcases z_rule_ok he hw hC hM hkp hc hm hl with ⟨f1, f2⟩ | ⟨p1, k1, m1, b1, b2, b3, b4, b5, b6, b7, b8⟩
    · have f3 : g_X12_clause (Int32.ofInt 1) T 99 5 < 0 := by
        rw [f2]
        exact f1
      have e1 : (r_X5_readText_7 e (Int32.ofInt 0) (r + 1) kk S).1 = g_X5_readRule e S 66 6 := by
        rw [E]
        split
        · have k := z_sk_expect (c := Int32.ofInt 59) f1
          rw [z_sk_text he _ _ _ _ (by rw [k]; exact f1), k]
        · rw [if_neg (z_ng f1)]
      rw [e1]
      refine Or.inl ⟨f1, g_X12_clause (Int32.ofInt 1) T, ⟨2, ?_⟩, fr, k25⟩
      have s1 : s_X12_takesText_17 (Int32.ofInt 1) (Int32.ofInt 1) T = Sum.inl (Int32.ofInt 0, g_X12_clause (Int32.ofInt 1) T) := by
        rw [st, if_pos (z_bad (z_ng f3))]
      rw [z_itr_l (s := fun p : Int32 × v_Sf => s_X12_takesText_17 (Int32.ofInt 1) p.1 p.2) s1, ← f2]
      exact z_itr_r (s := fun p : Int32 × v_Sf => s_X12_takesText_17 (Int32.ofInt 1) p.1 p.2) (z_t_bad _ _ f3)
    · have c5 : g_X12_clause (Int32.ofInt 1) T 99 5 = 0 := b2.2.2.2.1
      have hn1 := z_pc_n b1
      by_cases gl : p1 < n
      · have l1 : g_X5_readRule e S 66 4 < g_X5_readRule e S 66 5 := by
          rw [b1.2.2.1, b1.2.2.2.1, z_ilt (by omega) (by omega)]
          exact gl
        have l2 : ¬ g_X12_clause (Int32.ofInt 1) T 99 4 ≤ g_X12_clause (Int32.ofInt 1) T 99 3 := by
          rw [b2.2.1, b2.2.2.1, z_ile (by omega) (by omega)]
          omega
        rw [if_pos l1] at E
        rw [if_neg (z_good1 c5), if_neg l2, z_px_here b2] at st
        by_cases g59 : z_hc w p1 n = Int32.ofInt 59
        · have gm := (z_hcm (by decide)).mp g59
          have E2 : g_X5_expect (Int32.ofInt 59) (g_X5_readRule e S) = z_s (g_X5_readRule e S) 66 4 ((g_X5_readRule e S) 66 4 + Int32.ofInt 1) := by
            unfold g_X5_expect
            rw [z_pc_here b1, if_neg (not_not_intro g59)]
          rw [E2] at E
          rw [if_pos gm] at st
          have c2 := z_c_adv he b1 gl
          have m2 : z_px w (z_s (g_X12_clause (Int32.ofInt 1) T) 99 3 ((g_X12_clause (Int32.ofInt 1) T) 99 3 + Int32.ofInt 1)) (p1 + 1) n m1 := by
            obtain ⟨a1, a2, a3, a4, a5, a6, a7, a8, a9⟩ := b2
            refine ⟨fun i hi => ?_, ?_, ?_, ?_, ?_, ?_, by omega, by omega, a9⟩
            · rw [z_sn (by omega)]
              exact a1 i hi
            · rw [z_ss, a2, z_i1]
            · rw [z_sn (by omega)]
              exact a3
            · rw [z_sn (by omega)]
              exact a4
            · rw [z_sn (by omega)]
              exact a5
            · rw [z_sn (by omega)]
              exact a6
          have up : ∀ Y, (∃ N, z_itr (fun p : Int32 × v_Sf => s_X12_takesText_17 (Int32.ofInt 1) p.1 p.2) N (Int32.ofInt 1, z_s (g_X12_clause (Int32.ofInt 1) T) 99 3 ((g_X12_clause (Int32.ofInt 1) T) 99 3 + Int32.ofInt 1)) = some Y) → ∃ N, z_itr (fun p : Int32 × v_Sf => s_X12_takesText_17 (Int32.ofInt 1) p.1 p.2) N (Int32.ofInt 1, T) = some Y := by
            rintro Y ⟨N, hN⟩
            exact ⟨N + 1, (z_itr_l (s := fun p : Int32 × v_Sf => s_X12_takesText_17 (Int32.ofInt 1) p.1 p.2) st).trans hN⟩
          have fr2 : z_fr6 T (z_s (g_X12_clause (Int32.ofInt 1) T) 99 3 ((g_X12_clause (Int32.ofInt 1) T) 99 3 + Int32.ofInt 1)) := fun a j q1 q2 => (z_sn (by omega)).trans (fr a j q1 q2)
          rw [E]
          rcases ih (kk + 1) _ _ (p1 + 1) k1 m1 (nc + 1) ⟨c2.1, m2, by omega, by rw [z_sn (by omega)]; exact b5, by rw [z_sn (by omega)]; exact b6, by omega⟩ (by omega) (by omega) with ⟨f1, U, f2, f3, f4⟩ | ⟨S', T', p', k', m', nc', c1, c2a, c2b, c3, c4, c5'⟩
          · exact Or.inl ⟨f1, U, up _ f2, z_fr6_t fr2 f3, f4⟩
          · exact Or.inr ⟨S', T', p', k', m', nc', c1, c2a, c2b, c3, z_fr6_t fr2 c4, fun Y hY => up Y (c5' Y hY)⟩
        · have gm : ¬ z_hm w p1 n = Int32.ofInt 59 := fun q => g59 ((z_hcm (by decide)).mpr q)
          have n1 : z_phi 1 p1 < 0 := z_phi_n (by decide) (by omega)
          have E2 : g_X5_expect (Int32.ofInt 59) (g_X5_readRule e S) 66 6 = z_phi 1 p1 := by
            unfold g_X5_expect
            rw [z_pc_here b1, if_pos g59]
            exact z_c_fail b1 1
          have e1 : (r_X5_readText_7 e (Int32.ofInt 0) (r + 1) kk S).1 = z_phi 1 p1 := by
            rw [E, z_sk_text he _ _ _ _ (by rw [E2]; exact n1), E2]
          rw [if_neg gm, z_px_wrong b2] at st
          rw [e1]
          refine Or.inl ⟨n1, z_s (z_s (g_X12_clause (Int32.ofInt 1) T) 99 5 (z_phi 1 p1)) 99 3 (z_s (g_X12_clause (Int32.ofInt 1) T) 99 5 (z_phi 1 p1) 99 3 + Int32.ofInt 1), ⟨2, ?_⟩, ?_, ?_⟩
          · have b5' : z_s (z_s (g_X12_clause (Int32.ofInt 1) T) 99 5 (z_phi 1 p1)) 99 3 (z_s (g_X12_clause (Int32.ofInt 1) T) 99 5 (z_phi 1 p1) 99 3 + Int32.ofInt 1) 99 5 = z_phi 1 p1 := by rw [z_sn (by omega), z_ss]
            rw [z_itr_l (s := fun p : Int32 × v_Sf => s_X12_takesText_17 (Int32.ofInt 1) p.1 p.2) st]
            have := z_t_bad (C := z_s (z_s (g_X12_clause (Int32.ofInt 1) T) 99 5 (z_phi 1 p1)) 99 3 (z_s (g_X12_clause (Int32.ofInt 1) T) 99 5 (z_phi 1 p1) 99 3 + Int32.ofInt 1)) (Int32.ofInt 1) (Int32.ofInt 1) (by rw [b5']; exact n1)
            rw [b5'] at this
            exact z_itr_r (s := fun p : Int32 × v_Sf => s_X12_takesText_17 (Int32.ofInt 1) p.1 p.2) this
          · exact fun a j q1 q2 => by rw [z_sn (by omega), z_sn (by omega)]; exact fr a j q1 q2
          · rw [z_sn (by omega), z_sn (by omega)]
            exact k25
      · have l1 : ¬ g_X5_readRule e S 66 4 < g_X5_readRule e S 66 5 := by
          rw [b1.2.2.1, b1.2.2.2.1, z_ilt (by omega) (by omega)]
          exact gl
        have l2 : g_X12_clause (Int32.ofInt 1) T 99 4 ≤ g_X12_clause (Int32.ofInt 1) T 99 3 := by
          rw [b2.2.1, b2.2.2.1, z_ile (by omega) (by omega)]
          omega
        rw [if_neg l1, if_pos (z_pc_5 b1), b5] at E
        rw [if_neg (z_good1 c5), if_pos l2] at st
        refine Or.inr ⟨g_X5_readRule e S, g_X12_clause (Int32.ofInt 1) T, p1, k1, m1, nc + 1, E, by omega, by omega, ⟨b1, b2, b3.2.2.2, b5, b6, by omega⟩, fr, ?_⟩
        rintro Y ⟨N, hN⟩
        exact ⟨N + 1, (z_itr_l (s := fun p : Int32 × v_Sf => s_X12_takesText_17 (Int32.ofInt 1) p.1 p.2) st).trans hN⟩
/-! the reference's copies -/
theorem z_iadd (a b : Nat) : z_i a + z_i b = z_i (a + b) := by
  unfold z_i
  rw [← Int32.ofInt_add]
  rfl
theorem z_cp2 (b : Int32) {b0 m : Nat} (hb : b0 ≤ 240) (hm : m ≤ 240) : ∀ (d i : Nat) (T : v_Sf), i + d = m → T 99 7 = z_i m → ∃ T1, (∃ N, z_itr (fun p : Int32 × Int32 × v_Sf => s_X12_takesText_227 b p.1 p.2.1 p.2.2) N (z_i b0, z_i i, T) = some (T 99 6, T1)) ∧ (∀ a j, ¬ ((a = 105 ∨ a = 106) ∧ b0 + i ≤ j ∧ j < b0 + m) → T1 a j = T a j) ∧ ∀ j, i ≤ j → j < m → T1 105 (b0 + j) = T 111 j ∧ T1 106 (b0 + j) = T 112 j := by
  intro d
  induction d with
  | zero =>
    intro i T hi h7
    refine ⟨T, ⟨1, z_itr_r (s := fun p : Int32 × Int32 × v_Sf => s_X12_takesText_227 b p.1 p.2.1 p.2.2) ?_⟩, fun _ _ _ => rfl, fun j h1 h2 => by omega⟩
    show s_X12_takesText_227 b (z_i b0) (z_i i) T = _
    unfold s_X12_takesText_227
    rw [if_pos (by rw [h7, z_ile (by omega) (by omega)]; omega)]
  | succ d ih =>
    intro i T hi h7
    have s1 : s_X12_takesText_227 b (z_i b0) (z_i i) T = Sum.inl (z_i b0, z_i (i + 1), z_s (z_s T 105 (b0 + i) (T 111 i)) 106 (b0 + i) (T 112 i)) := by
      unfold s_X12_takesText_227
      rw [if_neg (by rw [h7, z_ile (by omega) (by omega)]; omega), z_iadd, z_iin (by omega), z_iin (by omega), z_i1]
    obtain ⟨T1, ⟨N, hN⟩, f1, f2⟩ := ih (i + 1) (z_s (z_s T 105 (b0 + i) (T 111 i)) 106 (b0 + i) (T 112 i)) (by omega) (by rw [z_sn (by omega), z_sn (by omega)]; exact h7)
    refine ⟨T1, ⟨N + 1, ?_⟩, fun a j q => ?_, fun j h1 h2 => ?_⟩
    · rw [z_itr_l (s := fun p : Int32 × Int32 × v_Sf => s_X12_takesText_227 b p.1 p.2.1 p.2.2) (a := (z_i b0, z_i i, T)) s1, hN, z_sn (by omega), z_sn (by omega)]
    · rw [f1 a j (by omega), z_sn (by omega), z_sn (by omega)]
    · by_cases g : j = i
      · rw [g, f1 _ _ (by omega), f1 _ _ (by omega), z_ss, z_sn (by omega), z_ss]
        exact ⟨rfl, rfl⟩
      · have := f2 j (by omega) h2
        rw [z_sn (by omega), z_sn (by omega), z_sn (by omega), z_sn (by omega)] at this
        exact this
theorem z_cp1 (b : Int32) {f0 b0 nc : Nat} (hf : f0 ≤ 16) (hb : b0 ≤ 240) (hc : nc ≤ 16) : ∀ (d i : Nat) (T : v_Sf), i + d = nc → T 99 6 = z_i nc → ∃ T1, (∃ N, z_itr (fun p : Int32 × Int32 × Int32 × v_Sf => s_X12_takesText_132 b p.1 p.2.1 p.2.2.1 p.2.2.2) N (z_i f0, z_i b0, z_i i, T) = some (z_lim (fun p : Int32 × Int32 × v_Sf => s_X12_takesText_227 b p.1 p.2.1 p.2.2) (Int32.ofInt 0, T1) (z_i b0, Int32.ofInt 0, T1))) ∧ (∀ a j, ¬ (101 ≤ a ∧ a ≤ 104 ∧ f0 + i ≤ j ∧ j < f0 + nc) → T1 a j = T a j) ∧ ∀ j, i ≤ j → j < nc → T1 101 (f0 + j) = T 107 j ∧ T1 102 (f0 + j) = z_i b0 + T 108 j ∧ T1 103 (f0 + j) = z_i b0 + T 109 j ∧ T1 104 (f0 + j) = z_i b0 + T 110 j := by
  intro d
  induction d with
  | zero =>
    intro i T hi h6
    refine ⟨T, ⟨1, z_itr_r (s := fun p : Int32 × Int32 × Int32 × v_Sf => s_X12_takesText_132 b p.1 p.2.1 p.2.2.1 p.2.2.2) ?_⟩, fun _ _ _ => rfl, fun j h1 h2 => by omega⟩
    show s_X12_takesText_132 b (z_i f0) (z_i b0) (z_i i) T = _
    unfold s_X12_takesText_132
    rw [if_pos (by rw [h6, z_ile (by omega) (by omega)]; omega)]
  | succ d ih =>
    intro i T hi h6
    have s1 : s_X12_takesText_132 b (z_i f0) (z_i b0) (z_i i) T = Sum.inl (z_i f0, z_i b0, z_i (i + 1), z_s (z_s (z_s (z_s T 101 (f0 + i) (T 107 i)) 102 (f0 + i) (z_i b0 + T 108 i)) 103 (f0 + i) (z_i b0 + T 109 i)) 104 (f0 + i) (z_i b0 + T 110 i)) := by
      unfold s_X12_takesText_132
      rw [if_neg (by rw [h6, z_ile (by omega) (by omega)]; omega), z_iadd, z_iin (by omega), z_iin (by omega), z_i1]
    obtain ⟨T1, ⟨N, hN⟩, f1, f2⟩ := ih (i + 1) (z_s (z_s (z_s (z_s T 101 (f0 + i) (T 107 i)) 102 (f0 + i) (z_i b0 + T 108 i)) 103 (f0 + i) (z_i b0 + T 109 i)) 104 (f0 + i) (z_i b0 + T 110 i)) (by omega) (by rw [z_sn (by omega), z_sn (by omega), z_sn (by omega), z_sn (by omega)]; exact h6)
    refine ⟨T1, ⟨N + 1, ?_⟩, fun a j q => ?_, fun j h1 h2 => ?_⟩
    · rw [z_itr_l (s := fun p : Int32 × Int32 × Int32 × v_Sf => s_X12_takesText_132 b p.1 p.2.1 p.2.2.1 p.2.2.2) (a := (z_i f0, z_i b0, z_i i, T)) s1, hN]
    · rw [f1 a j (by omega), z_sn (by omega), z_sn (by omega), z_sn (by omega), z_sn (by omega)]
    · by_cases g : j = i
      · rw [g]
        refine ⟨?_, ?_, ?_, ?_⟩
        · rw [f1 _ _ (by omega), z_sn (by omega), z_sn (by omega), z_sn (by omega), z_ss]
        · rw [f1 _ _ (by omega), z_sn (by omega), z_sn (by omega), z_ss]
        · rw [f1 _ _ (by omega), z_sn (by omega), z_ss]
        · rw [f1 _ _ (by omega), z_ss]
      · have := f2 j (by omega) h2
        rw [z_sn (by omega), z_sn (by omega), z_sn (by omega), z_sn (by omega), z_sn (by omega), z_sn (by omega), z_sn (by omega), z_sn (by omega), z_sn (by omega), z_sn (by omega), z_sn (by omega), z_sn (by omega), z_sn (by omega), z_sn (by omega), z_sn (by omega), z_sn (by omega)] at this
        exact this
