/-! terms and sums -/
theorem z_top_fr {w : Nat → Int32} {T T' : v_Sf} {p p' n m m' q a a' : Nat} (h : z_pm w T p n m q a) (h' : z_pm w T' p' n m' q a') (f : z_fM m q T T') : f_X12_top T' = f_X12_top T := by
  cases q with
  | zero => rw [z_top0 h.2.2.2.2.2.2.1, z_top0 h'.2.2.2.2.2.2.1]
  | succ q => rw [z_pm_top h, z_pm_top h', f 113 q (by omega) (by omega) (by omega)]
theorem z_tms_c {c : Int32} (h : z_tms c) : ¬ c = Int32.ofInt 0 ∧ ¬ c = Int32.ofInt 1 ∧ ¬ c = Int32.ofInt 2 ∧ ¬ c = Int32.ofInt 3 ∧ ¬ c = Int32.ofInt 4 ∧ ¬ c = Int32.ofInt 5 := by rcases h with rfl | rfl | rfl <;> decide
theorem z_pls_c {c : Int32} (h : z_pls c) : ¬ c = Int32.ofInt 0 ∧ ¬ c = Int32.ofInt 1 ∧ ¬ c = Int32.ofInt 2 ∧ ¬ c = Int32.ofInt 3 ∧ ¬ c = Int32.ofInt 4 ∧ ¬ c = Int32.ofInt 5 := by rcases h with rfl | rfl <;> decide
theorem z_cmp_c {c : Int32} (h : z_cmp c) : ¬ c = Int32.ofInt 0 ∧ ¬ c = Int32.ofInt 1 ∧ ¬ c = Int32.ofInt 2 ∧ ¬ c = Int32.ofInt 3 ∧ ¬ c = Int32.ofInt 4 ∧ ¬ c = Int32.ofInt 5 := by rcases h with rfl | rfl | rfl <;> decide
theorem z_tms_m {c : Int32} (h : z_tms c) : ¬ c ≤ Int32.ofInt 2 ∧ ¬ c = Int32.ofInt 38 ∧ ¬ c = Int32.ofInt 124 := by rcases h with rfl | rfl | rfl <;> decide
theorem z_pls_m {c : Int32} (h : z_pls c) : ¬ c ≤ Int32.ofInt 2 ∧ ¬ c = Int32.ofInt 38 ∧ ¬ c = Int32.ofInt 124 := by rcases h with rfl | rfl <;> decide
theorem z_cmp_m {c : Int32} (h : z_cmp c) : ¬ c ≤ Int32.ofInt 2 ∧ ¬ c = Int32.ofInt 38 ∧ ¬ c = Int32.ofInt 124 := by rcases h with rfl | rfl | rfl <;> decide
theorem z_plt {c : Int32} (h : z_pls c) : ¬ z_tms c := fun q => z_tp q h
theorem z_trm_loop {e : Nat} (he : z_cd e) {w : Nat → Int32} {n : Nat} {φ : Int32 → v_Sf → v_Sf} {a h : Nat} (hk : ∀ b, z_sk (φ b)) (hF : z_FAC e w n (g_readFactorF e φ (z_i a)) a h) : ∀ (r kk : Nat) (S T : v_Sf) (p k m q k0 m0 : Nat) (D : (Int32 → Int32) → Option Int32), z_pc e w S p n k → z_pm w T p n m q a → k ≤ p → n - p ≤ r → ¬ z_tms (f_X12_top T) → z_segC (S (e + 1)) (S (e + 2)) k0 k (h + 1) D → z_segM (T 111) (T 112) m0 m D → z_res (r_readTermF_7 e φ (z_i a) r kk S) (z_vA T) (∃ T' p' k' m' D', (z_pc e w (r_readTermF_7 e φ (z_i a) r kk S) p' n k' ∧ z_pm w T' p' n m' q a ∧ (p ≤ p' ∧ k ≤ k' ∧ m ≤ m' ∧ k' + p ≤ k + p') ∧ z_fC e k S (r_readTermF_7 e φ (z_i a) r kk S) ∧ z_fM m q T T' ∧ z_segC (r_readTermF_7 e φ (z_i a) r kk S (e + 1)) (r_readTermF_7 e φ (z_i a) r kk S (e + 2)) k0 k' (h + 1) D' ∧ z_segM (T' 111) (T' 112) m0 m' D') ∧ ¬ z_tms (z_hc w p' n) ∧ ∀ U, z_vA T' U → z_vA T U) := by
  have hcd := z_cdn he
  intro r
  induction r with
  | zero =>
    intro kk S T p k m q k0 m0 D hC hM hkp hr ht hs1 hs2
    have g : ¬ z_tms (z_hc w p n) := fun g => by have := z_tms_lt g; omega
    refine Or.inr ⟨T, p, k, m, D, ⟨?_, hM, by omega, ?_, z_fM_r _ _ _, ?_, hs2⟩, g, fun U hU => hU⟩
    · rw [r_readTermF_7]
      exact hC
    · rw [r_readTermF_7]
      exact z_fC_r _ _ _
    · rw [r_readTermF_7]
      exact hs1
  | succ r ih =>
    intro kk S T p k m q k0 m0 D hC hM hkp hr ht hs1 hs2
    have hhC := z_pc_here hC
    have hhM := z_pm_here hM
    have hn := z_pc_n hC
    by_cases g : z_tms (z_hc w p n)
    · have hlt := z_tms_lt g
      have gm := z_h_tms.mp g
      have E : r_readTermF_7 e φ (z_i a) (r + 1) kk S = r_readTermF_7 e φ (z_i a) r (kk + 1) (g_X1_put e (w p) (Int32.ofInt 0) (g_readFactorF e φ (z_i a) (z_s S 66 4 ((S 66 4) + (Int32.ofInt 1))))) := by
        rw [r_readTermF_7, hhC, z_hcl hlt]
        rw [z_hcl hlt] at g
        rcases g with g | g | g
        · rw [if_pos g]
        · rw [if_neg (by rw [g]; decide), if_pos g]
        · rw [if_neg (by rw [g]; decide), if_neg (by rw [g]; decide), if_neg (not_not_intro g)]
      have c1 := z_c_adv he hC hlt
      rw [z_hml hlt] at gm
      have m1 := z_m_puts hM hlt (w p)
      have t1 : f_X12_top (g_X12_puts (w p) T) = w p := by rw [z_pm_top m1.1, m1.2.2]
      have es : g_X12_sums (f_X12_isPlus (w p)) T = T := z_sums_0 (by rw [z_plsF (z_tp gm)]; exact fun q => q.elim ht (fun q => q.1 rfl))
      have up : ∀ U, z_vE (g_X12_puts (w p) T) U → z_vA T U := fun U hU => z_vA_op (c := w p) (by rw [hhM, z_hml hlt]) (Or.inl gm) (by rw [es]; exact hU)
      rw [E]
      rcases hF _ _ (p + 1) k m (q + 1) c1.1 m1.1 (by omega) with ⟨f1, U, f2, f3⟩ | ⟨T2, p2, k2, m2, D2, ⟨o1, o2, o3, o4, o5, o6, o7⟩, o8, o11⟩
      · have f4 := z_sk_trm he hk (z_i a) r (kk + 1) (g_X1_put e (w p) (Int32.ofInt 0) (g_readFactorF e φ (z_i a) (z_s S 66 4 ((S 66 4) + (Int32.ofInt 1))))) (by rw [z_sk_put he]; exact f1)
        rw [z_sk_put he] at f4
        refine Or.inl ⟨?_, U, up U f2, ?_⟩
        · rw [f4]
          exact f1
        · rw [f4]
          exact f3
      · have hn2 := z_pc_n o1
        have c3 := z_c_put he o1 (by omega) (w p) (Int32.ofInt 0)
        have t2 : T2 113 q = w p := by rw [o5 113 q (by omega) (by omega) (by omega), m1.2.2]
        have m3 := z_m_pop o2
        have fT : z_fM m q T (z_popE T2) := z_fM_t (z_fM_t m1.2.1 o5 (Nat.le_refl _) (by omega)) m3.2.1 o3.2.2.1 (Nat.le_refl _)
        have fS : z_fC e k S (g_X1_put e (w p) (Int32.ofInt 0) (g_readFactorF e φ (z_i a) (z_s S 66 4 ((S 66 4) + (Int32.ofInt 1))))) := z_fC_t (z_fC_t c1.2 o4 (Nat.le_refl _)) c3.2.1 o3.2.1
        have tt : f_X12_top (z_popE T2) = f_X12_top T := z_top_fr hM m3.1 fT
        have sC := z_sC_bin (c := w p) (z_segC_a hs1 (fun x hx hy => ⟨fS _ _ (by omega) (by omega) (by omega), fS _ _ (by omega) (by omega) (by omega)⟩)) (z_segC_a o6 (fun x hx hy => ⟨c3.2.1 _ _ (by omega) (by omega) (by omega), c3.2.1 _ _ (by omega) (by omega) (by omega)⟩)) c3.2.2.1 (z_tms_c gm) (Nat.le_refl _)
        have sM := z_sM_bin (c := w p) (z_segM_a hs2 (fun x hx hy => ⟨fT _ _ (by omega) (by omega) (by omega), fT _ _ (by omega) (by omega) (by omega)⟩)) (z_segM_a o7 (fun x hx hy => ⟨m3.2.1 _ _ (by omega) (by omega) (by omega), m3.2.1 _ _ (by omega) (by omega) (by omega)⟩)) (m3.2.2.1.trans t2) (z_tms_m gm).1 (z_tms_m gm).2.1 (z_tms_m gm).2.2
        have up2 : ∀ U, z_vA (z_popE T2) U → z_vA T U := fun U hU => up U (o11 U (z_vA_pop o2 (Or.inl (by rw [t2]; exact gm)) hU))
        rcases ih (kk + 1) _ _ p2 (k2 + 1) (m2 + 1) q k0 m0 _ c3.1 m3.1 (by omega) (by omega) (by rw [tt]; exact ht) sC sM with ⟨f1, U, f2, f3⟩ | ⟨T', p', k', m', D', ⟨a1, a2, a3, a4, a5, a6, a7⟩, a8, a9⟩
        · exact Or.inl ⟨f1, U, up2 U f2, f3⟩
        · exact Or.inr ⟨T', p', k', m', D', ⟨a1, a2, by omega, z_fC_t fS a4 (by omega), z_fM_t fT a5 (by omega) (Nat.le_refl _), a6, a7⟩, a8, fun U hU => up2 U (a9 U hU)⟩
    · have E : r_readTermF_7 e φ (z_i a) (r + 1) kk S = S := by
        rw [r_readTermF_7, hhC]
        rw [if_neg (fun q => g (Or.inl q)), if_neg (fun q => g (Or.inr (Or.inl q))), if_pos (fun q => g (Or.inr (Or.inr q)))]
      rw [E]
      exact Or.inr ⟨T, p, k, m, D, ⟨hC, hM, by omega, z_fC_r _ _ _, z_fM_r _ _ _, hs1, hs2⟩, g, fun U hU => hU⟩
theorem z_trm_ok {e : Nat} (he : z_cd e) {w : Nat → Int32} {n : Nat} {φ : Int32 → v_Sf → v_Sf} {a h : Nat} (hk : ∀ b, z_sk (φ b)) (hF : z_FAC e w n (g_readFactorF e φ (z_i a)) a h) : z_TRM e w n (g_readTermF e φ (z_i a)) a (h + 1) := by
  intro S T p k m q hC hM hkp ht
  have hcd := z_cdn he
  show z_res (r_readTermF_7 e φ (z_i a) 240 0 (g_readFactorF e φ (z_i a) S)) _ _
  rcases hF S T p k m q hC hM hkp with ⟨f1, U, f2, f3⟩ | ⟨T2, p2, k2, m2, D2, ⟨o1, o2, o3, o4, o5, o6, o7⟩, o8, o11⟩
  · have f4 := z_sk_trm he hk (z_i a) 240 0 _ f1
    refine Or.inl ⟨?_, U, f2, ?_⟩
    · rw [f4]
      exact f1
    · rw [f4]
      exact f3
  · have tt : f_X12_top T2 = f_X12_top T := z_top_fr hM o2 o5
    have hn2 := z_pc_n o1
    rcases z_trm_loop he hk hF 240 0 _ T2 p2 k2 m2 q k m D2 o1 o2 (by omega) (by omega) (by rw [tt]; exact ht) (z_segC_h o6 (by omega)) o7 with ⟨f1, U, f2, f3⟩ | ⟨T', p', k', m', D', ⟨a1, a2, a3, a4, a5, a6, a7⟩, a8, a9⟩
    · exact Or.inl ⟨f1, U, o11 U f2, f3⟩
    · exact Or.inr ⟨T', p', k', m', D', ⟨a1, a2, by omega, z_fC_t o4 a4 o3.2.1, z_fM_t o5 a5 o3.2.2.1 (Nat.le_refl _), a6, a7⟩, by omega, a8, fun U hU => o11 U (a9 U hU)⟩
theorem z_sum_loop {e : Nat} (he : z_cd e) {w : Nat → Int32} {n : Nat} {φ : Int32 → v_Sf → v_Sf} {a h : Nat} (hk : ∀ b, z_sk (φ b)) (hF : z_TRM e w n (g_readTermF e φ (z_i a)) a h) : ∀ (r kk : Nat) (S T : v_Sf) (p k m q k0 m0 : Nat) (D : (Int32 → Int32) → Option Int32), z_pc e w S p n k → z_pm w T p n m q a → k ≤ p → n - p ≤ r → (¬ z_tms (f_X12_top T) ∧ ¬ z_pls (f_X12_top T)) → z_segC (S (e + 1)) (S (e + 2)) k0 k (h + 1) D → z_segM (T 111) (T 112) m0 m D → ¬ z_tms (z_hc w p n) → z_res (r_readSumF_7 e φ (z_i a) r kk S) (z_vA T) (∃ T' p' k' m' D', (z_pc e w (r_readSumF_7 e φ (z_i a) r kk S) p' n k' ∧ z_pm w T' p' n m' q a ∧ (p ≤ p' ∧ k ≤ k' ∧ m ≤ m' ∧ k' + p ≤ k + p') ∧ z_fC e k S (r_readSumF_7 e φ (z_i a) r kk S) ∧ z_fM m q T T' ∧ z_segC (r_readSumF_7 e φ (z_i a) r kk S (e + 1)) (r_readSumF_7 e φ (z_i a) r kk S (e + 2)) k0 k' (h + 1) D' ∧ z_segM (T' 111) (T' 112) m0 m' D') ∧ ¬ z_tms (z_hc w p' n) ∧ ¬ z_pls (z_hc w p' n) ∧ ∀ U, z_vA T' U → z_vA T U) := by
  have hcd := z_cdn he
  intro r
  induction r with
  | zero =>
    intro kk S T p k m q k0 m0 D hC hM hkp hr ht hs1 hs2 hx
    have g : ¬ z_pls (z_hc w p n) := fun g => by have := z_pls_lt g; omega
    refine Or.inr ⟨T, p, k, m, D, ⟨?_, hM, by omega, ?_, z_fM_r _ _ _, ?_, hs2⟩, hx, g, fun U hU => hU⟩
    · rw [r_readSumF_7]
      exact hC
    · rw [r_readSumF_7]
      exact z_fC_r _ _ _
    · rw [r_readSumF_7]
      exact hs1
  | succ r ih =>
    intro kk S T p k m q k0 m0 D hC hM hkp hr ht hs1 hs2 hx
    have hhC := z_pc_here hC
    have hhM := z_pm_here hM
    have hn := z_pc_n hC
    by_cases g : z_pls (z_hc w p n)
    · have hlt := z_pls_lt g
      have gm := z_h_pls.mp g
      have E : r_readSumF_7 e φ (z_i a) (r + 1) kk S = r_readSumF_7 e φ (z_i a) r (kk + 1) (g_X1_put e (w p) (Int32.ofInt 0) (g_readTermF e φ (z_i a) (z_s S 66 4 ((S 66 4) + (Int32.ofInt 1))))) := by
        rw [r_readSumF_7, hhC, z_hcl hlt]
        rw [z_hcl hlt] at g
        rcases g with g | g
        · rw [if_pos g]
        · rw [if_neg (by rw [g]; decide), if_neg (not_not_intro g)]
      have c1 := z_c_adv he hC hlt
      rw [z_hml hlt] at gm
      have m1 := z_m_puts hM hlt (w p)
      have t1 : f_X12_top (g_X12_puts (w p) T) = w p := by rw [z_pm_top m1.1, m1.2.2]
      have es : g_X12_sums (f_X12_isPlus (w p)) T = T := z_sums_0 (fun q => q.elim ht.1 (fun q => ht.2 q.2))
      have up : ∀ U, z_vE (g_X12_puts (w p) T) U → z_vA T U := fun U hU => z_vA_op (c := w p) (by rw [hhM, z_hml hlt]) (Or.inr gm) (by rw [es]; exact hU)
      rw [E]
      rcases hF _ _ (p + 1) k m (q + 1) c1.1 m1.1 (by omega) (by rw [t1]; exact z_plt gm) with ⟨f1, U, f2, f3⟩ | ⟨T2, p2, k2, m2, D2, ⟨o1, o2, o3, o4, o5, o6, o7⟩, o8, o9, o11⟩
      · have f4 := z_sk_sm he hk (z_i a) r (kk + 1) (g_X1_put e (w p) (Int32.ofInt 0) (g_readTermF e φ (z_i a) (z_s S 66 4 ((S 66 4) + (Int32.ofInt 1))))) (by rw [z_sk_put he]; exact f1)
        rw [z_sk_put he] at f4
        refine Or.inl ⟨?_, U, up U f2, ?_⟩
        · rw [f4]
          exact f1
        · rw [f4]
          exact f3
      · have hn2 := z_pc_n o1
        have c3 := z_c_put he o1 (by omega) (w p) (Int32.ofInt 0)
        have t2 : T2 113 q = w p := by rw [o5 113 q (by omega) (by omega) (by omega), m1.2.2]
        have m3 := z_m_pop o2
        have fT : z_fM m q T (z_popE T2) := z_fM_t (z_fM_t m1.2.1 o5 (Nat.le_refl _) (by omega)) m3.2.1 o3.2.2.1 (Nat.le_refl _)
        have fS : z_fC e k S (g_X1_put e (w p) (Int32.ofInt 0) (g_readTermF e φ (z_i a) (z_s S 66 4 ((S 66 4) + (Int32.ofInt 1))))) := z_fC_t (z_fC_t c1.2 o4 (Nat.le_refl _)) c3.2.1 o3.2.1
        have tt : f_X12_top (z_popE T2) = f_X12_top T := z_top_fr hM m3.1 fT
        have sC := z_sC_bin (c := w p) (z_segC_a hs1 (fun x hx hy => ⟨fS _ _ (by omega) (by omega) (by omega), fS _ _ (by omega) (by omega) (by omega)⟩)) (z_segC_a o6 (fun x hx hy => ⟨c3.2.1 _ _ (by omega) (by omega) (by omega), c3.2.1 _ _ (by omega) (by omega) (by omega)⟩)) c3.2.2.1 (z_pls_c gm) (Nat.le_refl _)
        have sM := z_sM_bin (c := w p) (z_segM_a hs2 (fun x hx hy => ⟨fT _ _ (by omega) (by omega) (by omega), fT _ _ (by omega) (by omega) (by omega)⟩)) (z_segM_a o7 (fun x hx hy => ⟨m3.2.1 _ _ (by omega) (by omega) (by omega), m3.2.1 _ _ (by omega) (by omega) (by omega)⟩)) (m3.2.2.1.trans t2) (z_pls_m gm).1 (z_pls_m gm).2.1 (z_pls_m gm).2.2
        have up2 : ∀ U, z_vA (z_popE T2) U → z_vA T U := fun U hU => up U (o11 U (z_vA_pop o2 (Or.inr ⟨by rw [t2]; exact gm, o9⟩) hU))
        rcases ih (kk + 1) _ _ p2 (k2 + 1) (m2 + 1) q k0 m0 _ c3.1 m3.1 (by omega) (by omega) (by rw [tt]; exact ht) sC sM o9 with ⟨f1, U, f2, f3⟩ | ⟨T', p', k', m', D', ⟨a1, a2, a3, a4, a5, a6, a7⟩, a8, a8b, a9⟩
        · exact Or.inl ⟨f1, U, up2 U f2, f3⟩
        · exact Or.inr ⟨T', p', k', m', D', ⟨a1, a2, by omega, z_fC_t fS a4 (by omega), z_fM_t fT a5 (by omega) (Nat.le_refl _), a6, a7⟩, a8, a8b, fun U hU => up2 U (a9 U hU)⟩
    · have E : r_readSumF_7 e φ (z_i a) (r + 1) kk S = S := by
        rw [r_readSumF_7, hhC]
        rw [if_neg (fun q => g (Or.inl q)), if_pos (fun q => g (Or.inr q))]
      rw [E]
      exact Or.inr ⟨T, p, k, m, D, ⟨hC, hM, by omega, z_fC_r _ _ _, z_fM_r _ _ _, hs1, hs2⟩, hx, g, fun U hU => hU⟩
theorem z_sum_ok {e : Nat} (he : z_cd e) {w : Nat → Int32} {n : Nat} {φ : Int32 → v_Sf → v_Sf} {a h : Nat} (hk : ∀ b, z_sk (φ b)) (hF : z_TRM e w n (g_readTermF e φ (z_i a)) a h) : z_SUM e w n (g_readSumF e φ (z_i a)) a (h + 1) := by
  intro S T p k m q hC hM hkp ht htp
  have hcd := z_cdn he
  show z_res (r_readSumF_7 e φ (z_i a) 240 0 (g_readTermF e φ (z_i a) S)) _ _
  rcases hF S T p k m q hC hM hkp ht with ⟨f1, U, f2, f3⟩ | ⟨T2, p2, k2, m2, D2, ⟨o1, o2, o3, o4, o5, o6, o7⟩, o8, o9, o11⟩
  · have f4 := z_sk_sm he hk (z_i a) 240 0 _ f1
    refine Or.inl ⟨?_, U, f2, ?_⟩
    · rw [f4]
      exact f1
    · rw [f4]
      exact f3
  · have tt : f_X12_top T2 = f_X12_top T := z_top_fr hM o2 o5
    have hn2 := z_pc_n o1
    rcases z_sum_loop he hk hF 240 0 _ T2 p2 k2 m2 q k m D2 o1 o2 (by omega) (by omega) (by rw [tt]; exact ⟨ht, htp⟩) (z_segC_h o6 (by omega)) o7 o9 with ⟨f1, U, f2, f3⟩ | ⟨T', p', k', m', D', ⟨a1, a2, a3, a4, a5, a6, a7⟩, a8, a8b, a9⟩
    · exact Or.inl ⟨f1, U, o11 U f2, f3⟩
    · exact Or.inr ⟨T', p', k', m', D', ⟨a1, a2, by omega, z_fC_t o4 a4 o3.2.1, z_fM_t o5 a5 o3.2.2.1 (Nat.le_refl _), a6, a7⟩, by omega, a8, a8b, fun U hU => o11 U (a9 U hU)⟩
theorem z_rdS_ok {e : Nat} (he : z_cd e) {w : Nat → Int32} (hw : z_by w) {n : Nat} : ∀ (f a : Nat), a ≤ 6 → 6 ≤ a + f → z_SUM e w n (g_rdS e f (z_i a)) a (3 + 2 * f) := by
  intro f
  induction f with
  | zero =>
    intro a ha h6
    rw [g_rdS]
    exact z_sum_ok he (fun _ _ _ => rfl) (z_trm_ok he (fun _ _ _ => rfl) (z_fac_ok he hw (h := 1) ha (Nat.le_refl _) (fun _ _ _ => rfl) (fun q => by omega)))
  | succ f ih =>
    intro a ha h6
    rw [g_rdS]
    exact z_sum_ok he (z_sk_rdS he f) (z_trm_ok he (z_sk_rdS he f) (z_fac_ok he hw (h := 3 + 2 * f) ha (by omega) (z_sk_rdS he f) (fun q => ih (a + 1) (by omega) (by omega))))
/-! a value -/
theorem z_val {w : Nat → Int32} {T T' : v_Sf} {p' n q a m' : Nat} (h25 : T 99 25 = 0) (hM' : z_pm w T' p' n m' q a) (g1 : ¬ z_tms (z_hc w p' n)) (g2 : ¬ z_pls (z_hc w p' n)) (t1 : ¬ z_tms (f_X12_top T')) (t2 : ¬ z_pls (f_X12_top T')) (t3 : ¬ f_X12_top T' = Int32.ofInt 91) (up : ∀ U, z_vA T' U → z_vE T U) : (z_hc w p' n = Int32.ofInt 93 ∧ g_X12_value T = z_s T' 99 5 (z_phi 1 p')) ∨ (¬ z_hc w p' n = Int32.ofInt 93 ∧ g_X12_value T = T') := by
  have g1m : ¬ z_tms (z_hm w p' n) := fun q => g1 (z_h_tms.mpr q)
  have g2m : ¬ z_pls (z_hm w p' n) := fun q => g2 (z_h_pls.mpr q)
  have es : g_X12_sums (Int32.ofInt 1) T' = T' := z_sums_0 (fun q => q.elim t1 (fun q => t2 q.2))
  have gv : ∀ U, z_vE T U → g_X12_value T = U := by
    rintro U ⟨N, hN⟩
    unfold g_X12_value F_X12_value
    rw [z_s_id (show T 99 25 = Int32.ofInt 0 from h25)]
    exact z_lim_eq hN
  by_cases g3 : z_hc w p' n = Int32.ofInt 93
  · refine Or.inl ⟨g3, gv _ (up _ ?_)⟩
    have g3m := (z_hcm (by decide)).mp g3
    have e1 : f_X12_stays T' = Int32.ofInt 0 := by
      unfold f_X12_stays
      rw [z_pm_here hM', g3m, es, if_neg (by decide), if_pos (by decide), if_pos rfl, if_neg t3]
    have e2 : g_X12_stays T' = z_s T' 99 5 (z_phi 1 p') := by
      unfold g_X12_stays
      rw [z_pm_here hM', g3m, es, if_neg (by decide), if_pos (by decide), if_pos rfl, if_neg t3, z_m_wrong hM']
    refine ⟨1, ?_⟩
    rw [e1, e2]
    refine z_itr_r (s := fun p : Int32 × v_Sf => s_X12_value_7 p.1 p.2) (z_v0 ?_ _)
    show ¬ z_s T' 99 5 (z_phi 1 p') 99 5 = 0
    rw [z_ss]
    exact z_phi0 (by decide) (by have := hM'.2.2.2.2.2.2.2.2.2; omega)
  · refine Or.inr ⟨g3, gv _ (up _ ?_)⟩
    have hs := z_stays_no (z_pm_here hM') g1m g2m (fun q => g3 ((z_hcm (by decide)).mpr q))
    refine ⟨1, ?_⟩
    rw [hs.1, hs.2, es]
    refine z_itr_r (s := fun p : Int32 × v_Sf => s_X12_value_7 p.1 p.2) ?_
    show s_X12_value_7 (Int32.ofInt 0) T' = _
    unfold s_X12_value_7
    rw [if_pos (show Int32.ofInt 0 = 0 by decide), if_neg (z_good1 (z_pm_5 hM')), if_pos t3]
theorem z_val_bad {T U : v_Sf} (h25 : T 99 25 = 0) (h : z_vE T U) : g_X12_value T = U := by
  obtain ⟨N, hN⟩ := h
  unfold g_X12_value F_X12_value
  rw [z_s_id (show T 99 25 = Int32.ofInt 0 from h25)]
  exact z_lim_eq hN
