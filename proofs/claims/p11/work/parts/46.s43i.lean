/-! tests, parts, conditions: both readers -/
noncomputable def z_nop (c : Int32) : Prop := ¬ z_tms c ∧ ¬ z_pls c ∧ ¬ c = Int32.ofInt 91
noncomputable def z_TST (e : Nat) (w : Nat → Int32) (n : Nat) (g : v_Sf → v_Sf) (a h : Nat) : Prop := ∀ (S T : v_Sf) (p k m q : Nat), z_pc e w S p n k → z_pm w T p n m (q + 1) a → T 99 24 = 0 → k ≤ p → z_nop (f_X12_top T) → z_res (g S) (z_cB T) (∃ T' p' k' m' D, z_ok e w n (q + 1) a h S T p k m (g S) T' p' k' m' D ∧ z_bool D ∧ p < p' ∧ z_wk (z_eA T') (z_cB T))
noncomputable def z_PRT (e : Nat) (w : Nat → Int32) (n : Nat) (g : v_Sf → v_Sf) (a h : Nat) : Prop := ∀ (S T : v_Sf) (p k m q : Nat), z_pc e w S p n k → z_pm w T p n m (q + 1) a → T 99 24 = 0 → k ≤ p → (f_X12_top T = Int32.ofInt 40 ∨ f_X12_top T = Int32.ofInt 124) → z_res (g S) (z_cB T) (∃ T' p' k' m' D, z_ok e w n (q + 1) a h S T p k m (g S) T' p' k' m' D ∧ z_bool D ∧ p < p' ∧ ¬ z_hc w p' n = Int32.ofInt 38 ∧ z_wk (z_cA T') (z_cB T))
noncomputable def z_CND (e : Nat) (w : Nat → Int32) (n : Nat) (g : v_Sf → v_Sf) (a h : Nat) : Prop := ∀ (S T : v_Sf) (p k m q : Nat), z_pc e w S p n k → z_pm w T p n m (q + 1) a → T 99 24 = 0 → k ≤ p → f_X12_top T = Int32.ofInt 40 → z_res (g S) (z_cB T) (∃ T' p' k' m' D, z_ok e w n (q + 1) a h S T p k m (g S) T' p' k' m' D ∧ z_bool D ∧ p < p' ∧ (¬ z_hc w p' n = Int32.ofInt 38 ∧ ¬ z_hc w p' n = Int32.ofInt 124) ∧ z_wk (z_cA T') (z_cB T))
theorem z_sk_brk {φ : Int32 → v_Sf → v_Sf} {e : Nat} (hφ : ∀ a, z_sk (φ a)) (a : Int32) : z_sk (g_readBracketF e φ a) := by
  intro S h
  unfold g_readBracketF F_readBracketF
  split
  · split
    · exact z_sk_opens h
    · have h1 := z_sk_opens (c := a) h
      have h2 := hφ (a + Int32.ofInt 1) (g_X5_opens a S) (by rw [h1]; exact h)
      rw [z_sk_expect (by rw [h2, h1]; exact h), h2, h1]
  · exact z_sk_fail h
theorem z_sk_tst {e : Nat} (he : z_cd e) {φS φT φC : Int32 → v_Sf → v_Sf} (hS : ∀ a, z_sk (φS a)) (hT : ∀ a, z_sk (φT a)) (hC : ∀ a, z_sk (φC a)) (a : Int32) : z_sk (g_readTestF e φS φT φC a) := by
  intro S h
  have h1 := z_sk_sum he hS a S h
  have cm : ∀ c, g_X1_put e c (Int32.ofInt 0) (g_readSumF e φS a (z_s (g_readSumF e φS a S) 66 4 (((g_readSumF e φS a S) 66 4) + (Int32.ofInt 1)))) 66 6 = S 66 6 := by
    intro c
    rw [z_sk_put he, z_sk_sum he hS a _ (by rw [z_sk_adv, h1]; exact h), z_sk_adv, h1]
  unfold g_readTestF F_readTestF
  split
  · split
    · split
      · exact cm _
      · split
        · exact cm _
        · split
          · exact cm _
          · rw [z_sk_fail (by rw [h1]; exact h), h1]
    · split
      · exact z_sk_opens h
      · have h2 := z_sk_opens (c := a) h
        rw [z_sk_put he, hT _ _ (by rw [h2]; exact h), h2]
  · exact z_sk_brk hC a S h
theorem z_sk_prt {e : Nat} (he : z_cd e) {φS φT φC : Int32 → v_Sf → v_Sf} (hS : ∀ a, z_sk (φS a)) (hT : ∀ a, z_sk (φT a)) (hC : ∀ a, z_sk (φC a)) (a : Int32) : ∀ (r k : Nat), z_sk (r_readPartF_7 e φS φT φC a r k) := by
  intro r
  induction r with
  | zero =>
    intro k S h
    rw [r_readPartF_7]
  | succ r ih =>
    intro k S h
    rw [r_readPartF_7]
    split
    · rfl
    · have h1 := z_sk_tst he hS hT hC a (g_X1_put e (Int32.ofInt 4) (Int32.ofInt 0) (z_s S 66 4 ((S 66 4) + (Int32.ofInt 1)))) (by rw [z_sk_put he, z_sk_adv]; exact h)
      rw [z_sk_put he, z_sk_adv] at h1
      rw [ih _ _ (by rw [z_sk_land he, h1]; exact h), z_sk_land he, h1]
theorem z_sk_part {e : Nat} (he : z_cd e) {φS φT φC : Int32 → v_Sf → v_Sf} (hS : ∀ a, z_sk (φS a)) (hT : ∀ a, z_sk (φT a)) (hC : ∀ a, z_sk (φC a)) (a : Int32) : z_sk (g_readPartF e φS φT φC a) := by
  intro S h
  unfold g_readPartF F_readPartF
  have h1 := z_sk_tst he hS hT hC a S h
  rw [z_sk_prt he hS hT hC a _ _ _ (by rw [h1]; exact h), h1]
theorem z_sk_cnd {e : Nat} (he : z_cd e) {φS φT φC : Int32 → v_Sf → v_Sf} (hS : ∀ a, z_sk (φS a)) (hT : ∀ a, z_sk (φT a)) (hC : ∀ a, z_sk (φC a)) (a : Int32) : ∀ (r k : Nat), z_sk (r_readConditionF_7 e φS φT φC a r k) := by
  intro r
  induction r with
  | zero =>
    intro k S h
    rw [r_readConditionF_7]
  | succ r ih =>
    intro k S h
    rw [r_readConditionF_7]
    split
    · rfl
    · have h1 := z_sk_part he hS hT hC a (g_X1_put e (Int32.ofInt 5) (Int32.ofInt 0) (z_s S 66 4 ((S 66 4) + (Int32.ofInt 1)))) (by rw [z_sk_put he, z_sk_adv]; exact h)
      rw [z_sk_put he, z_sk_adv] at h1
      rw [ih _ _ (by rw [z_sk_land he, h1]; exact h), z_sk_land he, h1]
theorem z_sk_cond {e : Nat} (he : z_cd e) {φS φT φC : Int32 → v_Sf → v_Sf} (hS : ∀ a, z_sk (φS a)) (hT : ∀ a, z_sk (φT a)) (hC : ∀ a, z_sk (φC a)) (a : Int32) : z_sk (g_readConditionF e φS φT φC a) := by
  intro S h
  unfold g_readConditionF F_readConditionF
  have h1 := z_sk_part he hS hT hC a S h
  rw [z_sk_cnd he hS hT hC a _ _ _ (by rw [h1]; exact h), h1]
theorem z_sk_rdX {e : Nat} (he : z_cd e) : ∀ f : Nat, (∀ a, z_sk ((g_rdX e f).1 a)) ∧ ∀ a, z_sk ((g_rdX e f).2 a) := by
  intro f
  induction f with
  | zero =>
    simp only [g_rdX]
    exact ⟨z_sk_tst he (fun _ _ _ => rfl) (fun _ _ _ => rfl) (fun _ _ _ => rfl), z_sk_cond he (fun _ _ _ => rfl) (fun _ _ _ => rfl) (fun _ _ _ => rfl)⟩
  | succ f ih =>
    simp only [g_rdX]
    exact ⟨z_sk_tst he (z_sk_rdS he f) ih.1 ih.2, z_sk_cond he (z_sk_rdS he f) ih.1 ih.2⟩
theorem z_eA_0 {T : v_Sf} (h : ¬ f_X12_top T = Int32.ofInt 33) : z_eA T = z_cA T := by
  unfold z_eA
  rw [z_ends_0 h]
theorem z_cA_put {w : Nat → Int32} {T U : v_Sf} {p n m q a : Nat} (h : z_pm w T p n m q a) (hp : p < n) (g : w p = Int32.ofInt 38 ∧ ¬ f_X12_top T = Int32.ofInt 38 ∨ w p = Int32.ofInt 124 ∧ ¬ f_X12_top T = Int32.ofInt 38 ∧ ¬ f_X12_top T = Int32.ofInt 124) (hU : z_cB (g_X12_puts (w p) T) U) : z_cA T U := by
  obtain ⟨N, hN⟩ := hU
  have e1 : f_X12_goesBehind T = Int32.ofInt 1 := by
    unfold f_X12_goesBehind
    rw [z_pm_here h, z_hml hp]
    rcases g with g | g
    · rw [if_pos g.1]
    · rw [if_neg (by rw [g.1]; decide), if_neg (not_not_intro g.1)]
  have e2 : g_X12_goesBehind T = g_X12_puts (w p) T := by
    unfold g_X12_goesBehind
    rw [z_pm_here h, z_hml hp]
    rcases g with g | g
    · rw [if_pos g.1, z_joins_0 (fun q => q.elim g.2 (fun q => q.1 (by decide)))]
    · rw [if_neg (by rw [g.1]; decide), if_neg (not_not_intro g.1), z_joins_0 (fun q => q.elim g.2.1 (fun q => g.2.2 q.2))]
  exact ⟨N, by rw [e1, e2]; exact hN⟩
/-- the ) of a test -/
noncomputable def z_cls (T : v_Sf) (v : Int32) : v_Sf := z_s (z_s (z_s (z_s T 99 9 (T 99 9 - Int32.ofInt 1)) 99 8 (T 99 8 - Int32.ofInt 1)) 99 3 (T 99 3 + Int32.ofInt 1)) 99 24 v
theorem z_m_cls {w : Nat → Int32} {T : v_Sf} {p n m q a : Nat} (h : z_pm w T p n m (q + 1) (a + 1)) (hp : p < n) (v : Int32) : z_pm w (z_cls T v) (p + 1) n m q a ∧ (T 99 24 = v → z_fM m q T (z_cls T v)) ∧ z_cls T v 99 24 = v ∧ ∀ b j, ¬ b = 99 → z_cls T v b j = T b j := by
  obtain ⟨h1, h2, h3, h4, h5, h6, h7, h8, h9, h10, h11⟩ := h
  unfold z_cls
  refine ⟨⟨fun i hi => ?_, ?_, ?_, ?_, ?_, ?_, ?_, ?_, by omega, by omega, h11⟩, fun h24 b j q1 q2 q3 => ?_, z_ss, fun b j hb => ?_⟩
  · rw [z_sn (by omega), z_sn (by omega), z_sn (by omega), z_sn (by omega)]
    exact h1 i hi
  · rw [z_sn (by omega), z_ss, h2, z_i1]
  · rw [z_sn (by omega), z_sn (by omega), z_sn (by omega), z_sn (by omega)]
    exact h3
  · rw [z_sn (by omega), z_sn (by omega), z_sn (by omega), z_sn (by omega)]
    exact h4
  · rw [z_sn (by omega), z_sn (by omega), z_sn (by omega), z_sn (by omega)]
    exact h5
  · rw [z_sn (by omega), z_sn (by omega), z_ss, h6, z_isub]
  · rw [z_sn (by omega), z_sn (by omega), z_sn (by omega), z_ss, h7, z_isub]
  · rw [z_sn (by omega), z_sn (by omega), z_sn (by omega), z_sn (by omega)]
    exact h8
  · by_cases g : b = 99 ∧ j = 24
    · rw [g.1, g.2, z_ss, h24]
    · rw [z_sn g, z_sn (by omega), z_sn (by omega), z_sn (by omega)]
  · rw [z_sn (by omega), z_sn (by omega), z_sn (by omega), z_sn (by omega)]
theorem z_cA_cls {w : Nat → Int32} {T U : v_Sf} {p n m q a : Nat} (h : z_pm w T p n m (q + 1 + 1) (a + 1)) (h24 : T 99 24 = 0) (hp : p < n) (hh : w p = Int32.ofInt 41) (ht : T 113 (q + 1) = Int32.ofInt 40) (hU : z_eA (z_cls T (Int32.ofInt 0)) U) : z_cA T U := by
  have et := z_pm_top h
  have hc := z_m_cls h hp (Int32.ofInt 0)
  have ej : g_X12_joins (Int32.ofInt 1) T = T := z_joins_0 (by rw [et, ht]; exact fun q => q.elim (by decide) (fun q => absurd q.2 (by decide)))
  have n1 : ¬ T 99 9 - Int32.ofInt 1 = 0 := by
    rw [h.2.2.2.2.2.2.1, z_isub, show (0 : Int32) = z_i 0 from rfl, z_inj (by have := h.2.2.2.2.2.2.2.2; omega) (by omega)]
    omega
  have e1 : f_X12_goesBehind T = Int32.ofInt 0 := by
    unfold f_X12_goesBehind
    rw [z_pm_here h, z_hml hp, hh, if_neg (by decide), if_pos (by decide), if_pos rfl]
    split <;> rfl
  have e2 : g_X12_goesBehind T = g_X12_ends (z_cls T (Int32.ofInt 0)) := by
    unfold g_X12_goesBehind z_cls
    rw [z_pm_here h, z_hml hp, hh, if_neg (by decide), if_pos (by decide), if_pos rfl, ej, if_pos n1]
  obtain ⟨N, hN⟩ := hU
  have k := z_ends_k hc.1
  have s1 : s_X12_condition_37 (Int32.ofInt 0) (g_X12_ends (z_cls T (Int32.ofInt 0))) = Sum.inl (f_X12_goesBehind (g_X12_ends (z_cls T (Int32.ofInt 0))), g_X12_goesBehind (g_X12_ends (z_cls T (Int32.ofInt 0)))) := by
    unfold s_X12_condition_37
    rw [if_neg (z_good1 (by rw [k.1]; exact z_pm_5 hc.1)), if_neg (by rw [k.2.1, hc.2.2.1]; decide), if_pos (by decide)]
  refine ⟨N + 1, ?_⟩
  rw [e1, e2, z_itr_l (s := fun p : Int32 × v_Sf => s_X12_condition_37 p.1 p.2) s1]
  exact hN
theorem z_opens_lt {a : Nat} (h : a < 6) (S : v_Sf) : f_X5_opens (z_i a) S = Int32.ofInt 1 ∧ g_X5_opens (z_i a) S = z_s S 66 4 (S 66 4 + Int32.ofInt 1) := by
  have q : z_i a < Int32.ofInt 6 := by
    rw [show Int32.ofInt 6 = z_i 6 from rfl, z_ilt (by omega) (by omega)]
    exact h
  unfold f_X5_opens g_X5_opens
  rw [if_pos q, if_pos q]
  exact ⟨rfl, rfl⟩
theorem z_opens_6 (S : v_Sf) : f_X5_opens (z_i 6) S = Int32.ofInt 0 ∧ g_X5_opens (z_i 6) S = g_X5_fail (Int32.ofInt 5) (S 66 4) S := by
  have q : ¬ z_i 6 < Int32.ofInt 6 := by decide
  unfold f_X5_opens g_X5_opens
  rw [if_neg q, if_neg q]
  exact ⟨rfl, rfl⟩
theorem z_ok_sub {e : Nat} {w : Nat → Int32} {n q a h h' : Nat} {S T S' T' : v_Sf} {p k m p' k' m' : Nat} {D : (Int32 → Int32) → Option Int32} (o : z_ok e w n q a h S T p k m S' T' p' k' m' D) (hh : h ≤ h') : z_ok e w n q a h' S T p k m S' T' p' k' m' D := ⟨o.1, o.2.1, o.2.2.1, o.2.2.2.1, o.2.2.2.2.1, z_segC_h o.2.2.2.2.2.1 hh, o.2.2.2.2.2.2⟩
/-- a comparison -/
noncomputable def z_cmpR (e : Nat) (φS : Int32 → v_Sf → v_Sf) (a : Int32) (S : v_Sf) : v_Sf := (if (f_X5_here (g_readSumF e φS a S)) = (Int32.ofInt 60) then g_X1_put e (f_X5_here (g_readSumF e φS a S)) (Int32.ofInt 0) (g_readSumF e φS a (z_s (g_readSumF e φS a S) 66 4 (((g_readSumF e φS a S) 66 4) + (Int32.ofInt 1)))) else (if (f_X5_here (g_readSumF e φS a S)) = (Int32.ofInt 62) then g_X1_put e (f_X5_here (g_readSumF e φS a S)) (Int32.ofInt 0) (g_readSumF e φS a (z_s (g_readSumF e φS a S) 66 4 (((g_readSumF e φS a S) 66 4) + (Int32.ofInt 1)))) else (if (f_X5_here (g_readSumF e φS a S)) = (Int32.ofInt 61) then g_X1_put e (f_X5_here (g_readSumF e φS a S)) (Int32.ofInt 0) (g_readSumF e φS a (z_s (g_readSumF e φS a S) 66 4 (((g_readSumF e φS a S) 66 4) + (Int32.ofInt 1)))) else g_X5_fail (Int32.ofInt 1) ((g_readSumF e φS a S) 66 4) (g_readSumF e φS a S))))
theorem z_cmp_ok {e : Nat} (he : z_cd e) {w : Nat → Int32} {n : Nat} {φS : Int32 → v_Sf → v_Sf} {a h : Nat} (hk : ∀ b, z_sk (φS b)) (hS : z_SUM e w n (g_readSumF e φS (z_i a)) a h) {S T : v_Sf} {p k m q : Nat} (hC : z_pc e w S p n k) (hM : z_pm w T p n m (q + 1) a) (h24 : T 99 24 = 0) (hkp : k ≤ p) (hnp : z_nop (f_X12_top T)) (g : ¬ (f_X12_here T = Int32.ofInt 33 ∨ f_X12_here T = Int32.ofInt 40)) {S' : v_Sf} (hS' : S' = z_cmpR e φS (z_i a) S) : z_res S' (z_cB T) (∃ T' p' k' m' D, z_ok e w n (q + 1) a (h + 1) S T p k m S' T' p' k' m' D ∧ z_bool D ∧ p < p' ∧ z_wk (z_eA T') (z_cB T)) := by
  have hcd := z_cdn he
  have h5 := z_pm_5 hM
  have h25 := z_pm_25 hM
  have pie := z_pie_0 h5 g
  have bad1 : ∀ U, g_X12_value T = U → ¬ U 99 5 = 0 → z_cB T U := by
    intro U hU hb
    have e1 : g_X12_pieceOfC T = U := by
      rw [pie]
      unfold z_pieR
      rw [hU, if_neg (not_not_intro (z_bad hb))]
    rw [← e1]
    exact z_cB_bad h5 h24 (by rw [e1]; exact hb)
  have eC1 : z_cmp (f_X5_here (g_readSumF e φS (z_i a) S)) → S' = g_X1_put e (f_X5_here (g_readSumF e φS (z_i a) S)) (Int32.ofInt 0) (g_readSumF e φS (z_i a) (z_s (g_readSumF e φS (z_i a) S) 66 4 (((g_readSumF e φS (z_i a) S) 66 4) + (Int32.ofInt 1)))) := by
    intro c
    rw [hS']
    unfold z_cmpR
    by_cases c1 : f_X5_here (g_readSumF e φS (z_i a) S) = Int32.ofInt 60
    · rw [if_pos c1]
    · rw [if_neg c1]
      by_cases c2 : f_X5_here (g_readSumF e φS (z_i a) S) = Int32.ofInt 62
      · rw [if_pos c2]
      · rw [if_neg c2, if_pos ((c.resolve_left c1).resolve_left c2)]
  have eC2 : ¬ z_cmp (f_X5_here (g_readSumF e φS (z_i a) S)) → S' = g_X5_fail (Int32.ofInt 1) ((g_readSumF e φS (z_i a) S) 66 4) (g_readSumF e φS (z_i a) S) := by
    intro c
    rw [hS']
    unfold z_cmpR
    rw [if_neg (fun q => c (Or.inl q)), if_neg (fun q => c (Or.inr (Or.inl q))), if_neg (fun q => c (Or.inr (Or.inr q)))]
  rcases hS S T p k m (q + 1) hC hM hkp hnp.1 hnp.2.1 with ⟨f1, U, f2, f3⟩ | ⟨T2, p2, k2, m2, D2, ⟨o1, o2, o3, o4, o5, o6, o7⟩, o8, o9, o10, o11⟩
  · have f4 : S' 66 6 = g_readSumF e φS (z_i a) S 66 6 := by
      by_cases c : z_cmp (f_X5_here (g_readSumF e φS (z_i a) S))
      · rw [eC1 c, z_sk_put he, z_sk_sum he hk (z_i a) _ (by rw [z_sk_adv]; exact f1), z_sk_adv]
      · rw [eC2 c]
        exact z_sk_fail f1
    refine Or.inl ⟨by rw [f4]; exact f1, U, bad1 U (z_val_bad h25 f2) (by rw [f3]; exact z_ng f1), by rw [f4]; exact f3⟩
  · have hn2 := z_pc_n o1
    have tt : f_X12_top T2 = f_X12_top T := z_top_fr hM o2 o5
    have v1 := z_val h25 o2 o9 o10 (by rw [tt]; exact hnp.1) (by rw [tt]; exact hnp.2.1) (by rw [tt]; exact hnp.2.2) o11
    by_cases gc : z_cmp (z_hc w p2 n)
    · have n93 : ¬ z_hc w p2 n = Int32.ofInt 93 := by rcases gc with q | q | q <;> (rw [q]; decide)
      have hv : g_X12_value T = T2 := (v1.resolve_left (fun q => n93 q.1)).2
      have hlt := z_cmp_lt gc
      have gw : z_cmp (w p2) := by
        rw [z_hcl hlt] at gc
        exact gc
      have ec : S' = g_X1_put e (w p2) (Int32.ofInt 0) (g_readSumF e φS (z_i a) (z_s (g_readSumF e φS (z_i a) S) 66 4 (((g_readSumF e φS (z_i a) S) 66 4) + (Int32.ofInt 1)))) := by
        rw [eC1 (by rw [z_pc_here o1]; exact gc), z_pc_here o1, z_hcl hlt]
      have c3 := z_c_adv he o1 hlt
      have m3 := z_m_puts o2 hlt (w p2)
      have t3 : f_X12_top (g_X12_puts (w p2) T2) = w p2 := by rw [z_pm_top m3.1, m3.2.2]
      have np3 : z_nop (w p2) := by rcases gw with q | q | q <;> (rw [q]; unfold z_nop z_tms z_pls; decide)
      have pieV : ∀ V, g_X12_value (g_X12_puts (w p2) T2) = V → g_X12_pieceOfC T = (if ¬ f_X12_isGood V = 0 then g_X12_ends (z_popE V) else V) := by
        intro V hV
        rw [pie]
        unfold z_pieR
        rw [hv, if_pos (z_good1 (z_pm_5 o2)), z_pm_here o2, if_pos (by rw [z_hml hlt, z_cmpT gw]; decide), z_hml hlt, hV]
      have bad2 : ∀ V, g_X12_value (g_X12_puts (w p2) T2) = V → ¬ V 99 5 = 0 → z_cB T V := by
        intro V hV hb
        have e1 : g_X12_pieceOfC T = V := by rw [pieV V hV, if_neg (not_not_intro (z_bad hb))]
        rw [← e1]
        exact z_cB_bad h5 h24 (by rw [e1]; exact hb)
      rw [ec]
      rcases hS _ _ (p2 + 1) k2 m2 (q + 1 + 1) c3.1 m3.1 (by omega) (by rw [t3]; exact np3.1) (by rw [t3]; exact np3.2.1) with ⟨f1, U, f2, f3⟩ | ⟨T4, p4, k4, m4, D4, ⟨b1, b2, b3, b4, b5, b6, b7⟩, b8, b9, b10, b11⟩
      · refine Or.inl ⟨by rw [z_sk_put he]; exact f1, U, bad2 U (z_val_bad (z_pm_25 m3.1) f2) (by rw [f3]; exact z_ng f1), by rw [z_sk_put he]; exact f3⟩
      · have hn4 := z_pc_n b1
        have t4 : f_X12_top T4 = w p2 := by rw [z_top_fr m3.1 b2 b5, t3]
        have t4' : T4 113 (q + 1) = w p2 := by rw [← z_pm_top b2, t4]
        have v4 := z_val (z_pm_25 m3.1) b2 b9 b10 (by rw [t4]; exact np3.1) (by rw [t4]; exact np3.2.1) (by rw [t4]; exact np3.2.2) b11
        have c5 := z_c_put he b1 (by omega) (w p2) (Int32.ofInt 0)
        have m5 := z_m_pop b2
        have fS : z_fC e k S (g_X1_put e (w p2) (Int32.ofInt 0) (g_readSumF e φS (z_i a) (z_s (g_readSumF e φS (z_i a) S) 66 4 (((g_readSumF e φS (z_i a) S) 66 4) + (Int32.ofInt 1))))) := z_fC_t (z_fC_t (z_fC_t o4 c3.2 o3.2.1) b4 o3.2.1) c5.2.1 (by omega)
        have fS2 : z_fC e k2 (g_readSumF e φS (z_i a) S) (g_X1_put e (w p2) (Int32.ofInt 0) (g_readSumF e φS (z_i a) (z_s (g_readSumF e φS (z_i a) S) 66 4 (((g_readSumF e φS (z_i a) S) 66 4) + (Int32.ofInt 1))))) := z_fC_t (z_fC_t c3.2 b4 (Nat.le_refl _)) c5.2.1 (by omega)
        have fT2 : z_fM m2 (q + 1) T2 (z_popE T4) := z_fM_t (z_fM_t m3.2.1 b5 (Nat.le_refl _) (by omega)) m5.2.1 (by omega) (Nat.le_refl _)
        have fT : z_fM m (q + 1) T (z_popE T4) := z_fM_t o5 fT2 o3.2.2.1 (Nat.le_refl _)
        have sC := z_sC_bin (c := w p2) (z_segC_a o6 (fun x hx hy => ⟨fS2 _ _ (by omega) (by omega) (by omega), fS2 _ _ (by omega) (by omega) (by omega)⟩)) (z_segC_a b6 (fun x hx hy => ⟨c5.2.1 _ _ (by omega) (by omega) (by omega), c5.2.1 _ _ (by omega) (by omega) (by omega)⟩)) c5.2.2.1 (z_cmp_c gw) (by omega)
        have sM := z_sM_bin (c := w p2) (z_segM_a o7 (fun x hx hy => ⟨fT2 _ _ (by omega) (by omega) (by omega), fT2 _ _ (by omega) (by omega) (by omega)⟩)) (z_segM_a b7 (fun x hx hy => ⟨m5.2.1 _ _ (by omega) (by omega) (by omega), m5.2.1 _ _ (by omega) (by omega) (by omega)⟩)) (m5.2.2.1.trans t4') (z_cmp_m gw).1 (z_cmp_m gw).2.1 (z_cmp_m gw).2.2
        refine Or.inr ⟨_, p4, k4 + 1, m4 + 1, _, ⟨c5.1, m5.1, by omega, fS, fT, sC, sM⟩, z_bool_bin (by rcases gw with q | q | q; exact Or.inl q; exact Or.inr (Or.inr q); exact Or.inr (Or.inl q)), by omega, ?_⟩
        rcases v4 with ⟨q1, q2⟩ | ⟨q1, q2⟩
        · intro U hU
          have e5 := z_eA_bad m5.1 (by rw [q1]; unfold z_beh; decide) hU
          have n5 : z_phi 1 p4 < 0 := z_phi_n (by decide) (by omega)
          refine ⟨_, bad2 _ q2 (by rw [z_ss]; exact z_ng n5), Or.inr ⟨by rw [z_ss, e5], by rw [e5]; exact z_ng n5⟩⟩
        · have e1 : g_X12_pieceOfC T = g_X12_ends (z_popE T4) := by rw [pieV _ q2, if_pos (z_good1 (z_pm_5 b2))]
          refine z_wk_i (fun U hU => z_cB_good h5 h24 ?_ ?_)
          · rw [e1, (z_ends_k m5.1).1]
            exact z_pm_5 m5.1
          · rw [e1]
            exact hU
    · have ec : S' 66 6 = z_phi 1 p2 := by
        rw [eC2 (by rw [z_pc_here o1]; exact gc)]
        exact z_c_fail o1 1
      have n2 : z_phi 1 p2 < 0 := z_phi_n (by decide) (by omega)
      have gm : ¬ z_cmp (z_hm w p2 n) := fun q => gc (z_h_cmp.mpr q)
      rcases v1 with ⟨q1, q2⟩ | ⟨q1, q2⟩
      · exact Or.inl ⟨by rw [ec]; exact n2, _, bad1 _ q2 (by rw [z_ss]; exact z_ng n2), by rw [ec, z_ss]⟩
      · have e1 : g_X12_pieceOfC T = z_s T2 99 5 (z_phi 1 p2) := by
          rw [pie]
          unfold z_pieR
          rw [q2, if_pos (z_good1 (z_pm_5 o2)), z_pm_here o2, if_neg (not_not_intro (z_cmpF gm)), z_m_wrong o2]
        refine Or.inl ⟨by rw [ec]; exact n2, _, z_cB_bad h5 h24 ?_, ?_⟩
        · rw [e1, z_ss]
          exact z_ng n2
        · rw [e1, ec, z_ss]
theorem z_brk_in {e : Nat} (he : z_cd e) {w : Nat → Int32} {n : Nat} {φC : Int32 → v_Sf → v_Sf} {a : Nat} (ha : a < 6) (hk : ∀ b, z_sk (φC b)) (hC6 : z_CND e w n (φC (z_i (a + 1))) (a + 1) 20) {S T : v_Sf} {p k m q : Nat} (hC : z_pc e w S p n k) (hM : z_pm w T p n m q a) (h24 : T 99 24 = 0) (hkp : k ≤ p) (hlt : p < n) (wp : w p = Int32.ofInt 40) : z_res (g_readBracketF e φC (z_i a) S) (z_cB (g_X12_opens T)) (∃ T2 p2 k2 m2 D, z_pc e w (g_readBracketF e φC (z_i a) S) (p2 + 1) n k2 ∧ z_pm w T2 p2 n m2 (q + 1) (a + 1) ∧ T2 99 24 = 0 ∧ (p + 1 ≤ p2 ∧ p2 < n ∧ k ≤ k2 ∧ m ≤ m2 ∧ k2 + p ≤ k + p2) ∧ z_fC e k S (g_readBracketF e φC (z_i a) S) ∧ z_fM m q T T2 ∧ T2 113 q = Int32.ofInt 40 ∧ z_segC (g_readBracketF e φC (z_i a) S (e + 1)) (g_readBracketF e φC (z_i a) S (e + 2)) k k2 20 D ∧ z_segM (T2 111) (T2 112) m m2 D ∧ z_bool D ∧ w p2 = Int32.ofInt 41 ∧ z_wk (z_cA T2) (z_cB (g_X12_opens T))) := by
  have hcd := z_cdn he
  have op := z_opens_lt ha S
  have c1 := z_c_adv he hC hlt
  have m1 := z_m_opens hM hlt ha
  have E : g_readBracketF e φC (z_i a) S = g_X5_expect (Int32.ofInt 41) (φC (z_i (a + 1)) (z_s S 66 4 (S 66 4 + Int32.ofInt 1))) := by
    unfold g_readBracketF F_readBracketF
    rw [z_pc_here hC, z_hcl hlt, if_pos wp, op.1, if_neg (by decide), op.2, z_i1]
  have t1 : f_X12_top (g_X12_opens T) = Int32.ofInt 40 := by rw [z_pm_top m1.1, m1.2.2, wp]
  have h24' : g_X12_opens T 99 24 = 0 := by rw [m1.2.1 99 24 (by omega) (by omega) (by omega), h24]
  rw [E]
  rcases hC6 _ _ (p + 1) k m q c1.1 m1.1 h24' (by omega) t1 with ⟨f1, U, f2, f3⟩ | ⟨T2, p2, k2, m2, D2, ⟨o1, o2, o3, o4, o5, o6, o7⟩, o8, o9, o10, o11⟩
  · refine Or.inl ⟨?_, U, f2, ?_⟩
    · rw [z_sk_expect f1]
      exact f1
    · rw [z_sk_expect f1]
      exact f3
  · have hn2 := z_pc_n o1
    have h24'' : T2 99 24 = 0 := by rw [o5 99 24 (by omega) (by omega) (by omega), h24']
    by_cases g : z_hc w p2 n = Int32.ofInt 41
    · have hlt2 := z_hlt (by decide) g
      have E2 : g_X5_expect (Int32.ofInt 41) (φC (z_i (a + 1)) (z_s S 66 4 (S 66 4 + Int32.ofInt 1))) = z_s (φC (z_i (a + 1)) (z_s S 66 4 (S 66 4 + Int32.ofInt 1))) 66 4 ((φC (z_i (a + 1)) (z_s S 66 4 (S 66 4 + Int32.ofInt 1))) 66 4 + Int32.ofInt 1) := by
        unfold g_X5_expect
        rw [z_pc_here o1, if_neg (not_not_intro g)]
      rw [E2]
      have c2 := z_c_adv he o1 hlt2
      exact Or.inr ⟨T2, p2, k2, m2, D2, c2.1, o2, h24'', ⟨by omega, hlt2, by omega, by omega, by omega⟩, z_fC_t (z_fC_t c1.2 o4 (Nat.le_refl _)) c2.2 o3.2.1, z_fM_t m1.2.1 o5 (Nat.le_refl _) (by omega), by rw [o5 113 q (by omega) (by omega) (by omega), m1.2.2, wp], z_segC_a o6 (fun x hx hy => ⟨c2.2 _ _ (by omega) (by omega) (by omega), c2.2 _ _ (by omega) (by omega) (by omega)⟩), o7, o8, by rw [← g, z_hcl hlt2], o11⟩
    · have E2 : g_X5_expect (Int32.ofInt 41) (φC (z_i (a + 1)) (z_s S 66 4 (S 66 4 + Int32.ofInt 1))) 66 6 = z_phi 1 p2 := by
        unfold g_X5_expect
        rw [z_pc_here o1, if_pos g]
        exact z_c_fail o1 1
      have n2 : z_phi 1 p2 < 0 := z_phi_n (by decide) (by omega)
      refine Or.inl ⟨by rw [E2]; exact n2, ?_⟩
      rw [E2]
      exact z_wk_f o11 n2 ⟨_, z_cA_bad o2 (fun q => q.elim o10.1 (fun q => q.elim o10.2 g)), z_ss⟩
theorem z_tst_ok {e : Nat} (he : z_cd e) {w : Nat → Int32} {n : Nat} {φS φT φC : Int32 → v_Sf → v_Sf} {a h : Nat} (ha : a ≤ 6) (hh : h + 1 ≤ 20) (hkS : ∀ b, z_sk (φS b)) (hkT : ∀ b, z_sk (φT b)) (hkC : ∀ b, z_sk (φC b)) (hS : z_SUM e w n (g_readSumF e φS (z_i a)) a h) (hT : a < 6 → z_TST e w n (φT (z_i (a + 1))) (a + 1) 20) (hC6 : a < 6 → z_CND e w n (φC (z_i (a + 1))) (a + 1) 20) : z_TST e w n (g_readTestF e φS φT φC (z_i a)) a 20 := by
  intro S T p k m q hC hM h24 hkp hnp
  have hcd := z_cdn he
  have hhC := z_pc_here hC
  have hhM := z_pm_here hM
  have hn := z_pc_n hC
  have h5 := z_pm_5 hM
  by_cases g40 : z_hc w p n = Int32.ofInt 40
  · have hlt := z_hlt (by decide) g40
    have wp : w p = Int32.ofInt 40 := by rw [← g40, z_hcl hlt]
    have gm : f_X12_here T = Int32.ofInt 33 ∨ f_X12_here T = Int32.ofInt 40 := Or.inr (by rw [hhM, z_hml hlt, wp])
    have E : g_readTestF e φS φT φC (z_i a) S = g_readBracketF e φC (z_i a) S := by
      unfold g_readTestF F_readTestF
      rw [hhC, if_neg (not_not_intro g40)]
    rw [E]
    rcases Nat.lt_or_ge a 6 with h6 | h6
    · have m1 := z_m_opens hM hlt h6
      have h24' : g_X12_opens T 99 24 = 0 := by rw [m1.2.1 99 24 (by omega) (by omega) (by omega), h24]
      have up : ∀ U, z_cB (g_X12_opens T) U → z_cB T U := fun U hU => z_cB_same h5 h24 (z_pm_5 m1.1) h24' (z_pie_1 hM h6 hlt gm) hU
      rcases z_brk_in he h6 hkC (hC6 h6) hC hM h24 hkp hlt wp with ⟨f1, U, f2, f3⟩ | ⟨T2, p2, k2, m2, D, b1, b2, b3, b4, b5, b6, b7, b8, b9, b10, b11, b12⟩
      · exact Or.inl ⟨f1, U, up U f2, f3⟩
      · have cl := z_m_cls b2 b4.2.1 (Int32.ofInt 0)
        have fM := cl.2.1 b3
        refine Or.inr ⟨_, p2 + 1, k2, m2, D, ⟨b1, cl.1, by omega, b5, z_fM_t b6 fM b4.2.2.2.1 (Nat.le_refl _), b8, z_segM_a b9 (fun x hx hy => ⟨cl.2.2.2 _ _ (by omega), cl.2.2.2 _ _ (by omega)⟩)⟩, b10, by omega, ?_⟩
        exact z_wk_t (z_wk_t (z_wk_i (fun U hU => z_cA_cls b2 b3 b4.2.1 b11 b7 hU)) b12) (z_wk_i up)
    · obtain rfl : a = 6 := by omega
      have op := z_opens_6 S
      have E2 : g_readBracketF e φC (z_i 6) S 66 6 = z_phi 5 p := by
        unfold g_readBracketF F_readBracketF
        rw [hhC, if_pos g40, op.1, if_pos (by decide), op.2]
        exact z_c_fail hC 5
      have n2 : z_phi 5 p < 0 := z_phi_n (by decide) (by omega)
      have p6 := z_pie_6 hM gm
      exact Or.inl ⟨by rw [E2]; exact n2, _, z_cB_bad h5 h24 (by rw [p6]; exact z_ng n2), by rw [E2]; exact p6⟩
  · by_cases g33 : z_hc w p n = Int32.ofInt 33
    · have hlt := z_hlt (by decide) g33
      have wp : w p = Int32.ofInt 33 := by rw [← g33, z_hcl hlt]
      have gm : f_X12_here T = Int32.ofInt 33 ∨ f_X12_here T = Int32.ofInt 40 := Or.inl (by rw [hhM, z_hml hlt, wp])
      have E : g_readTestF e φS φT φC (z_i a) S = (if (f_X5_opens (z_i a) S) = 0 then g_X5_opens (z_i a) S else g_X1_put e (Int32.ofInt 3) (Int32.ofInt 0) (φT ((z_i a) + (Int32.ofInt 1)) (g_X5_opens (z_i a) S))) := by
        unfold g_readTestF F_readTestF
        rw [hhC, if_pos g40, if_neg (not_not_intro g33)]
      rcases Nat.lt_or_ge a 6 with h6 | h6
      · have op := z_opens_lt h6 S
        rw [op.1, if_neg (by decide), op.2, z_i1] at E
        have c1 := z_c_adv he hC hlt
        have m1 := z_m_opens hM hlt h6
        have h24' : g_X12_opens T 99 24 = 0 := by rw [m1.2.1 99 24 (by omega) (by omega) (by omega), h24]
        have t1 : f_X12_top (g_X12_opens T) = Int32.ofInt 33 := by rw [z_pm_top m1.1, m1.2.2, wp]
        have up : ∀ U, z_cB (g_X12_opens T) U → z_cB T U := fun U hU => z_cB_same h5 h24 (z_pm_5 m1.1) h24' (z_pie_1 hM h6 hlt gm) hU
        rw [E]
        rcases hT h6 _ _ (p + 1) k m (q + 1) c1.1 m1.1 h24' (by omega) (by rw [t1]; unfold z_nop z_tms z_pls; decide) with ⟨f1, U, f2, f3⟩ | ⟨T2, p2, k2, m2, D2, ⟨o1, o2, o3, o4, o5, o6, o7⟩, o8, o9, o11⟩
        · exact Or.inl ⟨by rw [z_sk_put he]; exact f1, U, up U f2, by rw [z_sk_put he]; exact f3⟩
        · have hn2 := z_pc_n o1
          have t2 : f_X12_top T2 = Int32.ofInt 33 := by rw [z_top_fr m1.1 o2 o5, t1]
          have c3 := z_c_put he o1 (by omega) (Int32.ofInt 3) (Int32.ofInt 0)
          have m3 := z_m_popN o2
          refine Or.inr ⟨_, p2, k2 + 1, m2 + 1, z_not D2, ⟨c3.1, m3.1, by omega, z_fC_t (z_fC_t c1.2 o4 (Nat.le_refl _)) c3.2.1 o3.2.1, z_fM_t (z_fM_t m1.2.1 o5 (Nat.le_refl _) (by omega)) m3.2.1 o3.2.2.1 (Nat.le_refl _), z_sC_not (z_segC_a o6 (fun x hx hy => ⟨c3.2.1 _ _ (by omega) (by omega) (by omega), c3.2.1 _ _ (by omega) (by omega) (by omega)⟩)) c3.2.2.1, z_sM_not (z_segM_a o7 (fun x hx hy => ⟨m3.2.1 _ _ (by omega) (by omega) (by omega), m3.2.1 _ _ (by omega) (by omega) (by omega)⟩)) m3.2.2⟩, z_bool_not o8, by omega, ?_⟩
          refine z_wk_t (z_wk_t (z_wk_i (fun U hU => ?_)) o11) (z_wk_i up)
          unfold z_eA at hU ⊢
          rw [z_ends_1 o2 t2]
          exact hU
      · obtain rfl : a = 6 := by omega
        have op := z_opens_6 S
        have E2 : g_readTestF e φS φT φC (z_i 6) S 66 6 = z_phi 5 p := by
          rw [E, op.1, if_pos (by decide), op.2]
          exact z_c_fail hC 5
        have n2 : z_phi 5 p < 0 := z_phi_n (by decide) (by omega)
        have p6 := z_pie_6 hM gm
        exact Or.inl ⟨by rw [E2]; exact n2, _, z_cB_bad h5 h24 (by rw [p6]; exact z_ng n2), by rw [E2]; exact p6⟩
    · have gm : ¬ (f_X12_here T = Int32.ofInt 33 ∨ f_X12_here T = Int32.ofInt 40) := by
        rw [hhM, ← z_hcm (by decide), ← z_hcm (by decide)]
        exact fun q => q.elim g33 g40
      have E : g_readTestF e φS φT φC (z_i a) S = z_cmpR e φS (z_i a) S := by
        unfold g_readTestF F_readTestF z_cmpR
        rw [hhC, if_pos g40, if_pos g33]
      rcases z_cmp_ok he hkS hS hC hM h24 hkp hnp gm E with f | ⟨T2, p2, k2, m2, D2, b1, b2, b3, b4⟩
      · exact Or.inl f
      · exact Or.inr ⟨T2, p2, k2, m2, D2, z_ok_sub b1 hh, b2, b3, b4⟩
theorem z_prt_loop {e : Nat} (he : z_cd e) {w : Nat → Int32} {n : Nat} {φS φT φC : Int32 → v_Sf → v_Sf} {a : Nat} (hkS : ∀ b, z_sk (φS b)) (hkT : ∀ b, z_sk (φT b)) (hkC : ∀ b, z_sk (φC b)) (hF : z_TST e w n (g_readTestF e φS φT φC (z_i a)) a 20) : ∀ (r kk : Nat) (S T : v_Sf) (p k m q k0 m0 : Nat) (D : (Int32 → Int32) → Option Int32), z_pc e w S p n k → z_pm w T p n m (q + 1) a → T 99 24 = 0 → k ≤ p → n - p ≤ r → (f_X12_top T = Int32.ofInt 40 ∨ f_X12_top T = Int32.ofInt 124) → z_segC (S (e + 1)) (S (e + 2)) k0 k 20 D → z_segM (T 111) (T 112) m0 m D → z_bool D → z_res (r_readPartF_7 e φS φT φC (z_i a) r kk S) (z_cA T) (∃ T' p' k' m' D', (z_pc e w (r_readPartF_7 e φS φT φC (z_i a) r kk S) p' n k' ∧ z_pm w T' p' n m' (q + 1) a ∧ (p ≤ p' ∧ k ≤ k' ∧ m ≤ m' ∧ k' + p ≤ k + p') ∧ z_fC e k S (r_readPartF_7 e φS φT φC (z_i a) r kk S) ∧ z_fM m (q + 1) T T' ∧ z_segC (r_readPartF_7 e φS φT φC (z_i a) r kk S (e + 1)) (r_readPartF_7 e φS φT φC (z_i a) r kk S (e + 2)) k0 k' 20 D' ∧ z_segM (T' 111) (T' 112) m0 m' D') ∧ z_bool D' ∧ ¬ z_hc w p' n = Int32.ofInt 38 ∧ z_wk (z_cA T') (z_cA T)) := by
  have hcd := z_cdn he
  intro r
  induction r with
  | zero =>
    intro kk S T p k m q k0 m0 D hC hM h24 hkp hr ht hs1 hs2 hb
    have g : ¬ z_hc w p n = Int32.ofInt 38 := fun g => by have := z_hlt (by decide) g; omega
    refine Or.inr ⟨T, p, k, m, D, ⟨?_, hM, by omega, ?_, z_fM_r _ _ _, ?_, hs2⟩, hb, g, z_wk_i (fun U hU => hU)⟩
    · rw [r_readPartF_7]
      exact hC
    · rw [r_readPartF_7]
      exact z_fC_r _ _ _
    · rw [r_readPartF_7]
      exact hs1
  | succ r ih =>
    intro kk S T p k m q k0 m0 D hC hM h24 hkp hr ht hs1 hs2 hb
    have hhC := z_pc_here hC
    have hn := z_pc_n hC
    by_cases g : z_hc w p n = Int32.ofInt 38
    · have hlt := z_hlt (by decide) g
      have wp : w p = Int32.ofInt 38 := by rw [← g, z_hcl hlt]
      have c1 := z_c_adv he hC hlt
      have c2 := z_c_put he c1.1 (by omega) (Int32.ofInt 4) (Int32.ofInt 0)
      have E : r_readPartF_7 e φS φT φC (z_i a) (r + 1) kk S = r_readPartF_7 e φS φT φC (z_i a) r (kk + 1) (g_X1_land e (z_i k) (g_readTestF e φS φT φC (z_i a) (g_X1_put e (Int32.ofInt 4) (Int32.ofInt 0) (z_s S 66 4 ((S 66 4) + (Int32.ofInt 1)))))) := by
        rw [r_readPartF_7, hhC, if_neg (not_not_intro g), c2.2.2.2.2]
      have m1 := z_m_puts hM hlt (w p)
      have t1 : f_X12_top (g_X12_puts (w p) T) = Int32.ofInt 38 := by rw [z_pm_top m1.1, m1.2.2, wp]
      have h24' : g_X12_puts (w p) T 99 24 = 0 := by rw [m1.2.1 99 24 (by omega) (by omega) (by omega), h24]
      have up : ∀ U, z_cB (g_X12_puts (w p) T) U → z_cA T U := fun U hU => z_cA_put hM hlt (Or.inl ⟨wp, by rcases ht with q | q <;> (rw [q]; decide)⟩) hU
      rw [E]
      rcases hF _ _ (p + 1) (k + 1) m (q + 1) c2.1 m1.1 h24' (by omega) (by rw [t1]; unfold z_nop z_tms z_pls; decide) with ⟨f1, U, f2, f3⟩ | ⟨T2, p2, k2, m2, D2, ⟨o1, o2, o3, o4, o5, o6, o7⟩, o8, o9, o11⟩
      · have f4 := z_sk_prt he hkS hkT hkC (z_i a) r (kk + 1) (g_X1_land e (z_i k) (g_readTestF e φS φT φC (z_i a) (g_X1_put e (Int32.ofInt 4) (Int32.ofInt 0) (z_s S 66 4 ((S 66 4) + (Int32.ofInt 1)))))) (by rw [z_sk_land he]; exact f1)
        rw [z_sk_land he] at f4
        exact Or.inl ⟨by rw [f4]; exact f1, U, up U f2, by rw [f4]; exact f3⟩
      · have hn2 := z_pc_n o1
        have c4 := z_c_land he o1 (by omega) (j := k) (by omega)
        have t2 : f_X12_top T2 = Int32.ofInt 38 := by rw [z_top_fr m1.1 o2 o5, t1]
        have t2' : T2 113 (q + 1) = Int32.ofInt 38 := by rw [← z_pm_top o2, t2]
        have m3 := z_m_pop o2
        generalize hX : g_readTestF e φS φT φC (z_i a) (g_X1_put e (Int32.ofInt 4) (Int32.ofInt 0) (z_s S 66 4 ((S 66 4) + (Int32.ofInt 1)))) = X at *
        have fX : z_fC e k S X := z_fC_t (z_fC_t c1.2 c2.2.1 (Nat.le_refl _)) o4 (by omega)
        have fS : z_fC e k S (g_X1_land e (z_i k) X) := by
          rw [c4.2]
          exact fun b j q1 q2 q3 => (z_sn (by omega)).trans (fX b j q1 q2 q3)
        have fT : z_fM m (q + 1) T (z_popE T2) := z_fM_t (z_fM_t m1.2.1 o5 (Nat.le_refl _) (by omega)) m3.2.1 o3.2.2.1 (Nat.le_refl _)
        have tt : f_X12_top (z_popE T2) = f_X12_top T := z_top_fr hM m3.1 fT
        have s1 : g_X1_land e (z_i k) X (e + 1) k = Int32.ofInt 4 := by
          rw [c4.2, z_sn (by omega), o4 _ _ (by omega) (by omega) (by omega)]
          exact c2.2.2.1
        have s2 : g_X1_land e (z_i k) X (e + 2) k = z_i k2 := by rw [c4.2, z_ss]
        have sC := z_sC_and (z_segC_a hs1 (fun x hx hy => ⟨fS _ _ (by omega) (by omega) (by omega), fS _ _ (by omega) (by omega) (by omega)⟩)) (z_segC_a (st' := g_X1_land e (z_i k) X (e + 1)) (wi' := g_X1_land e (z_i k) X (e + 2)) o6 (fun x hx hy => by rw [c4.2]; exact ⟨z_sn (by omega), z_sn (by omega)⟩)) s1 s2
        have sM := z_sM_and (z_segM_a hs2 (fun x hx hy => ⟨fT _ _ (by omega) (by omega) (by omega), fT _ _ (by omega) (by omega) (by omega)⟩)) (z_segM_a o7 (fun x hx hy => ⟨m3.2.1 _ _ (by omega) (by omega) (by omega), m3.2.1 _ _ (by omega) (by omega) (by omega)⟩)) (m3.2.2.1.trans t2') hb
        have up2 : z_wk (z_cA (z_popE T2)) (z_cA T) := z_wk_t (z_wk_t (z_cA_pop o2 (Or.inl t2')) (by rw [z_eA_0 (by rw [t2]; decide)] at o11; exact o11)) (z_wk_i up)
        have h24'' : z_popE T2 99 24 = 0 := by rw [fT 99 24 (by omega) (by omega) (by omega), h24]
        rcases ih (kk + 1) _ _ p2 k2 (m2 + 1) q k0 m0 _ c4.1 m3.1 h24'' (by omega) (by omega) (by rw [tt]; exact ht) sC sM (z_bool_and hb o8) with ⟨f1, f2⟩ | ⟨T', p', k', m', D', ⟨a1, a2, a3, a4, a5, a6, a7⟩, a8, a8b, a9⟩
        · exact Or.inl ⟨f1, z_wk_f up2 f1 f2⟩
        · exact Or.inr ⟨T', p', k', m', D', ⟨a1, a2, by omega, z_fC_t fS a4 (by omega), z_fM_t fT a5 (by omega) (Nat.le_refl _), a6, a7⟩, a8, a8b, z_wk_t a9 up2⟩
    · have E : r_readPartF_7 e φS φT φC (z_i a) (r + 1) kk S = S := by rw [r_readPartF_7, hhC, if_pos g]
      rw [E]
      exact Or.inr ⟨T, p, k, m, D, ⟨hC, hM, by omega, z_fC_r _ _ _, z_fM_r _ _ _, hs1, hs2⟩, hb, g, z_wk_i (fun U hU => hU)⟩
theorem z_prt_ok {e : Nat} (he : z_cd e) {w : Nat → Int32} {n : Nat} {φS φT φC : Int32 → v_Sf → v_Sf} {a : Nat} (hkS : ∀ b, z_sk (φS b)) (hkT : ∀ b, z_sk (φT b)) (hkC : ∀ b, z_sk (φC b)) (hF : z_TST e w n (g_readTestF e φS φT φC (z_i a)) a 20) : z_PRT e w n (g_readPartF e φS φT φC (z_i a)) a 20 := by
  intro S T p k m q hC hM h24 hkp ht
  have hcd := z_cdn he
  show z_res (r_readPartF_7 e φS φT φC (z_i a) 240 0 (g_readTestF e φS φT φC (z_i a) S)) _ _
  rcases hF S T p k m q hC hM h24 hkp (by rcases ht with h | h <;> (rw [h]; unfold z_nop z_tms z_pls; decide)) with ⟨f1, U, f2, f3⟩ | ⟨T2, p2, k2, m2, D2, ⟨o1, o2, o3, o4, o5, o6, o7⟩, o8, o9, o11⟩
  · have f4 := z_sk_prt he hkS hkT hkC (z_i a) 240 0 _ f1
    exact Or.inl ⟨by rw [f4]; exact f1, U, f2, by rw [f4]; exact f3⟩
  · have tt : f_X12_top T2 = f_X12_top T := z_top_fr hM o2 o5
    have hn2 := z_pc_n o1
    have h24' : T2 99 24 = 0 := by rw [o5 99 24 (by omega) (by omega) (by omega), h24]
    rw [z_eA_0 (by rw [tt]; rcases ht with q | q <;> (rw [q]; decide))] at o11
    rcases z_prt_loop he hkS hkT hkC hF 240 0 _ T2 p2 k2 m2 q k m D2 o1 o2 h24' (by omega) (by omega) (by rw [tt]; exact ht) o6 o7 o8 with ⟨f1, f2⟩ | ⟨T', p', k', m', D', ⟨a1, a2, a3, a4, a5, a6, a7⟩, a8, a8b, a9⟩
    · exact Or.inl ⟨f1, z_wk_f o11 f1 f2⟩
    · exact Or.inr ⟨T', p', k', m', D', ⟨a1, a2, by omega, z_fC_t o4 a4 o3.2.1, z_fM_t o5 a5 o3.2.2.1 (Nat.le_refl _), a6, a7⟩, a8, by omega, a8b, z_wk_t a9 o11⟩
theorem z_cnd_loop {e : Nat} (he : z_cd e) {w : Nat → Int32} {n : Nat} {φS φT φC : Int32 → v_Sf → v_Sf} {a : Nat} (hkS : ∀ b, z_sk (φS b)) (hkT : ∀ b, z_sk (φT b)) (hkC : ∀ b, z_sk (φC b)) (hF : z_PRT e w n (g_readPartF e φS φT φC (z_i a)) a 20) : ∀ (r kk : Nat) (S T : v_Sf) (p k m q k0 m0 : Nat) (D : (Int32 → Int32) → Option Int32), z_pc e w S p n k → z_pm w T p n m (q + 1) a → T 99 24 = 0 → k ≤ p → n - p ≤ r → f_X12_top T = Int32.ofInt 40 → z_segC (S (e + 1)) (S (e + 2)) k0 k 20 D → z_segM (T 111) (T 112) m0 m D → z_bool D → ¬ z_hc w p n = Int32.ofInt 38 → z_res (r_readConditionF_7 e φS φT φC (z_i a) r kk S) (z_cA T) (∃ T' p' k' m' D', (z_pc e w (r_readConditionF_7 e φS φT φC (z_i a) r kk S) p' n k' ∧ z_pm w T' p' n m' (q + 1) a ∧ (p ≤ p' ∧ k ≤ k' ∧ m ≤ m' ∧ k' + p ≤ k + p') ∧ z_fC e k S (r_readConditionF_7 e φS φT φC (z_i a) r kk S) ∧ z_fM m (q + 1) T T' ∧ z_segC (r_readConditionF_7 e φS φT φC (z_i a) r kk S (e + 1)) (r_readConditionF_7 e φS φT φC (z_i a) r kk S (e + 2)) k0 k' 20 D' ∧ z_segM (T' 111) (T' 112) m0 m' D') ∧ z_bool D' ∧ (¬ z_hc w p' n = Int32.ofInt 38 ∧ ¬ z_hc w p' n = Int32.ofInt 124) ∧ z_wk (z_cA T') (z_cA T)) := by
  have hcd := z_cdn he
  intro r
  induction r with
  | zero =>
    intro kk S T p k m q k0 m0 D hC hM h24 hkp hr ht hs1 hs2 hb hx
    have g : ¬ z_hc w p n = Int32.ofInt 124 := fun g => by have := z_hlt (by decide) g; omega
    refine Or.inr ⟨T, p, k, m, D, ⟨?_, hM, by omega, ?_, z_fM_r _ _ _, ?_, hs2⟩, hb, ⟨hx, g⟩, z_wk_i (fun U hU => hU)⟩
    · rw [r_readConditionF_7]
      exact hC
    · rw [r_readConditionF_7]
      exact z_fC_r _ _ _
    · rw [r_readConditionF_7]
      exact hs1
  | succ r ih =>
    intro kk S T p k m q k0 m0 D hC hM h24 hkp hr ht hs1 hs2 hb hx
    have hhC := z_pc_here hC
    have hn := z_pc_n hC
    by_cases g : z_hc w p n = Int32.ofInt 124
    · have hlt := z_hlt (by decide) g
      have wp : w p = Int32.ofInt 124 := by rw [← g, z_hcl hlt]
      have c1 := z_c_adv he hC hlt
      have c2 := z_c_put he c1.1 (by omega) (Int32.ofInt 5) (Int32.ofInt 0)
      have E : r_readConditionF_7 e φS φT φC (z_i a) (r + 1) kk S = r_readConditionF_7 e φS φT φC (z_i a) r (kk + 1) (g_X1_land e (z_i k) (g_readPartF e φS φT φC (z_i a) (g_X1_put e (Int32.ofInt 5) (Int32.ofInt 0) (z_s S 66 4 ((S 66 4) + (Int32.ofInt 1)))))) := by
        rw [r_readConditionF_7, hhC, if_neg (not_not_intro g), c2.2.2.2.2]
      have m1 := z_m_puts hM hlt (w p)
      have t1 : f_X12_top (g_X12_puts (w p) T) = Int32.ofInt 124 := by rw [z_pm_top m1.1, m1.2.2, wp]
      have h24' : g_X12_puts (w p) T 99 24 = 0 := by rw [m1.2.1 99 24 (by omega) (by omega) (by omega), h24]
      have up : ∀ U, z_cB (g_X12_puts (w p) T) U → z_cA T U := fun U hU => z_cA_put hM hlt (Or.inr ⟨wp, by rw [ht]; decide, by rw [ht]; decide⟩) hU
      rw [E]
      rcases hF _ _ (p + 1) (k + 1) m (q + 1) c2.1 m1.1 h24' (by omega) (Or.inr t1) with ⟨f1, U, f2, f3⟩ | ⟨T2, p2, k2, m2, D2, ⟨o1, o2, o3, o4, o5, o6, o7⟩, o8, o9, o10, o11⟩
      · have f4 := z_sk_cnd he hkS hkT hkC (z_i a) r (kk + 1) (g_X1_land e (z_i k) (g_readPartF e φS φT φC (z_i a) (g_X1_put e (Int32.ofInt 5) (Int32.ofInt 0) (z_s S 66 4 ((S 66 4) + (Int32.ofInt 1)))))) (by rw [z_sk_land he]; exact f1)
        rw [z_sk_land he] at f4
        exact Or.inl ⟨by rw [f4]; exact f1, U, up U f2, by rw [f4]; exact f3⟩
      · have hn2 := z_pc_n o1
        have c4 := z_c_land he o1 (by omega) (j := k) (by omega)
        have t2 : f_X12_top T2 = Int32.ofInt 124 := by rw [z_top_fr m1.1 o2 o5, t1]
        have t2' : T2 113 (q + 1) = Int32.ofInt 124 := by rw [← z_pm_top o2, t2]
        have m3 := z_m_pop o2
        generalize hX : g_readPartF e φS φT φC (z_i a) (g_X1_put e (Int32.ofInt 5) (Int32.ofInt 0) (z_s S 66 4 ((S 66 4) + (Int32.ofInt 1)))) = X at *
        have fX : z_fC e k S X := z_fC_t (z_fC_t c1.2 c2.2.1 (Nat.le_refl _)) o4 (by omega)
        have fS : z_fC e k S (g_X1_land e (z_i k) X) := by
          rw [c4.2]
          exact fun b j q1 q2 q3 => (z_sn (by omega)).trans (fX b j q1 q2 q3)
        have fT : z_fM m (q + 1) T (z_popE T2) := z_fM_t (z_fM_t m1.2.1 o5 (Nat.le_refl _) (by omega)) m3.2.1 o3.2.2.1 (Nat.le_refl _)
        have tt : f_X12_top (z_popE T2) = f_X12_top T := z_top_fr hM m3.1 fT
        have s1 : g_X1_land e (z_i k) X (e + 1) k = Int32.ofInt 5 := by
          rw [c4.2, z_sn (by omega), o4 _ _ (by omega) (by omega) (by omega)]
          exact c2.2.2.1
        have s2 : g_X1_land e (z_i k) X (e + 2) k = z_i k2 := by rw [c4.2, z_ss]
        have sC := z_sC_or (z_segC_a hs1 (fun x hx hy => ⟨fS _ _ (by omega) (by omega) (by omega), fS _ _ (by omega) (by omega) (by omega)⟩)) (z_segC_a (st' := g_X1_land e (z_i k) X (e + 1)) (wi' := g_X1_land e (z_i k) X (e + 2)) o6 (fun x hx hy => by rw [c4.2]; exact ⟨z_sn (by omega), z_sn (by omega)⟩)) s1 s2
        have sM := z_sM_or (z_segM_a hs2 (fun x hx hy => ⟨fT _ _ (by omega) (by omega) (by omega), fT _ _ (by omega) (by omega) (by omega)⟩)) (z_segM_a o7 (fun x hx hy => ⟨m3.2.1 _ _ (by omega) (by omega) (by omega), m3.2.1 _ _ (by omega) (by omega) (by omega)⟩)) (m3.2.2.1.trans t2') hb
        have up2 : z_wk (z_cA (z_popE T2)) (z_cA T) := z_wk_t (z_wk_t (z_cA_pop o2 (Or.inr ⟨t2', o10⟩)) o11) (z_wk_i up)
        have h24'' : z_popE T2 99 24 = 0 := by rw [fT 99 24 (by omega) (by omega) (by omega), h24]
        rcases ih (kk + 1) _ _ p2 k2 (m2 + 1) q k0 m0 _ c4.1 m3.1 h24'' (by omega) (by omega) (by rw [tt]; exact ht) sC sM (z_bool_or hb o8) o10 with ⟨f1, f2⟩ | ⟨T', p', k', m', D', ⟨a1, a2, a3, a4, a5, a6, a7⟩, a8, a8b, a9⟩
        · exact Or.inl ⟨f1, z_wk_f up2 f1 f2⟩
        · exact Or.inr ⟨T', p', k', m', D', ⟨a1, a2, by omega, z_fC_t fS a4 (by omega), z_fM_t fT a5 (by omega) (Nat.le_refl _), a6, a7⟩, a8, a8b, z_wk_t a9 up2⟩
    · have E : r_readConditionF_7 e φS φT φC (z_i a) (r + 1) kk S = S := by rw [r_readConditionF_7, hhC, if_pos g]
      rw [E]
      exact Or.inr ⟨T, p, k, m, D, ⟨hC, hM, by omega, z_fC_r _ _ _, z_fM_r _ _ _, hs1, hs2⟩, hb, ⟨hx, g⟩, z_wk_i (fun U hU => hU)⟩
theorem z_cnd_ok {e : Nat} (he : z_cd e) {w : Nat → Int32} {n : Nat} {φS φT φC : Int32 → v_Sf → v_Sf} {a : Nat} (hkS : ∀ b, z_sk (φS b)) (hkT : ∀ b, z_sk (φT b)) (hkC : ∀ b, z_sk (φC b)) (hF : z_PRT e w n (g_readPartF e φS φT φC (z_i a)) a 20) : z_CND e w n (g_readConditionF e φS φT φC (z_i a)) a 20 := by
  intro S T p k m q hC hM h24 hkp ht
  have hcd := z_cdn he
  show z_res (r_readConditionF_7 e φS φT φC (z_i a) 240 0 (g_readPartF e φS φT φC (z_i a) S)) _ _
  rcases hF S T p k m q hC hM h24 hkp (Or.inl ht) with ⟨f1, U, f2, f3⟩ | ⟨T2, p2, k2, m2, D2, ⟨o1, o2, o3, o4, o5, o6, o7⟩, o8, o9, o10, o11⟩
  · have f4 := z_sk_cnd he hkS hkT hkC (z_i a) 240 0 _ f1
    exact Or.inl ⟨by rw [f4]; exact f1, U, f2, by rw [f4]; exact f3⟩
  · have tt : f_X12_top T2 = f_X12_top T := z_top_fr hM o2 o5
    have hn2 := z_pc_n o1
    have h24' : T2 99 24 = 0 := by rw [o5 99 24 (by omega) (by omega) (by omega), h24]
    rcases z_cnd_loop he hkS hkT hkC hF 240 0 _ T2 p2 k2 m2 q k m D2 o1 o2 h24' (by omega) (by omega) (by rw [tt]; exact ht) o6 o7 o8 o10 with ⟨f1, f2⟩ | ⟨T', p', k', m', D', ⟨a1, a2, a3, a4, a5, a6, a7⟩, a8, a8b, a9⟩
    · exact Or.inl ⟨f1, z_wk_f o11 f1 f2⟩
    · exact Or.inr ⟨T', p', k', m', D', ⟨a1, a2, by omega, z_fC_t o4 a4 o3.2.1, z_fM_t o5 a5 o3.2.2.1 (Nat.le_refl _), a6, a7⟩, a8, by omega, a8b, z_wk_t a9 o11⟩
theorem z_rdX_ok {e : Nat} (he : z_cd e) {w : Nat → Int32} (hw : z_by w) {n : Nat} : ∀ (f a : Nat), f ≤ 6 → a ≤ 6 → 6 ≤ a + f → z_TST e w n ((g_rdX e f).1 (z_i a)) a 20 ∧ z_CND e w n ((g_rdX e f).2 (z_i a)) a 20 := by
  intro f
  induction f with
  | zero =>
    intro a hf ha h6
    have k0 : ∀ b : Int32, z_sk ((fun (_ : Int32) (S : v_Sf) => S) b) := fun _ _ _ => rfl
    have s := z_sum_ok (w := w) (n := n) (a := a) he k0 (z_trm_ok he k0 (z_fac_ok he hw (h := 1) ha (Nat.le_refl _) k0 (fun q => by omega)))
    have t := z_tst_ok he ha (by decide) k0 k0 k0 s (fun q => by omega) (fun q => by omega)
    simp only [g_rdX]
    exact ⟨t, z_cnd_ok he k0 k0 k0 (z_prt_ok he k0 k0 k0 t)⟩
  | succ f ih =>
    intro a hf ha h6
    have s := z_sum_ok (w := w) (n := n) (a := a) he (z_sk_rdS he f) (z_trm_ok he (z_sk_rdS he f) (z_fac_ok he hw (h := 3 + 2 * f) ha (by omega) (z_sk_rdS he f) (fun q => z_rdS_ok he hw f (a + 1) (by omega) (by omega))))
    have k := z_sk_rdX he f
    have t := z_tst_ok he ha (by omega) (z_sk_rdS he f) k.1 k.2 s (fun q => (ih (a + 1) (by omega) (by omega) (by omega)).1) (fun q => (ih (a + 1) (by omega) (by omega) (by omega)).2)
    simp only [g_rdX]
    exact ⟨t, z_cnd_ok he (z_sk_rdS he f) k.1 k.2 (z_prt_ok he (z_sk_rdS he f) k.1 k.2 t)⟩
