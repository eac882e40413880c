/-! numbers, factors, terms, sums -/
theorem z_s_id {S : v_Sf} {a i : Nat} {v : Int32} (h : S a i = v) : z_s S a i v = S := by
  funext x y
  rw [z_s_eq]
  by_cases g : x = a ∧ y = i
  · rw [if_pos g, g.1, g.2, h]
  · rw [if_neg g]
noncomputable def z_sk (g : v_Sf → v_Sf) : Prop := ∀ S : v_Sf, S 66 6 < 0 → g S 66 6 = S 66 6
theorem z_sk_put {e : Nat} (he : z_cd e) (c v : Int32) (S : v_Sf) : g_X1_put e c v S 66 6 = S 66 6 := by
  have hn := z_cdn he
  unfold g_X1_put
  split
  · rw [z_sn (by omega), z_sn (by omega), z_sn (by omega)]
  · rfl
theorem z_sk_land {e : Nat} (he : z_cd e) (c : Int32) (S : v_Sf) : g_X1_land e c S 66 6 = S 66 6 := by
  have hn := z_cdn he
  unfold g_X1_land
  split
  · rfl
  · split
    · rfl
    · rw [z_sn (by omega)]
theorem z_sk_adv (S : v_Sf) (v : Int32) : z_s S 66 4 v 66 6 = S 66 6 := z_sn (by omega)
theorem z_sk_fail {c b : Int32} {S : v_Sf} (h : S 66 6 < 0) : g_X5_fail c b S 66 6 = S 66 6 := by
  unfold g_X5_fail
  rw [if_pos (z_ng h)]
theorem z_sk_expect {c : Int32} {S : v_Sf} (h : S 66 6 < 0) : g_X5_expect c S 66 6 = S 66 6 := by
  unfold g_X5_expect
  split
  · exact z_sk_fail h
  · exact z_sk_adv _ _
theorem z_sk_opens {c : Int32} {S : v_Sf} (h : S 66 6 < 0) : g_X5_opens c S 66 6 = S 66 6 := by
  unfold g_X5_opens
  split
  · exact z_sk_adv _ _
  · exact z_sk_fail h
theorem z_sk_num {e : Nat} (he : z_cd e) : ∀ (r k : Nat) (x : Int32) (S : v_Sf), S 66 6 < 0 → r_X5_readNumber_4 e r k x S 66 6 = S 66 6 := by
  intro r
  induction r with
  | zero =>
    intro k x S h
    rw [r_X5_readNumber_4]
    exact z_sk_put he _ _ _
  | succ r ih =>
    intro k x S h
    rw [r_X5_readNumber_4]
    split
    · exact z_sk_put he _ _ _
    · split
      · exact z_sk_put he _ _ _
      · split
        · rw [ih _ _ _ (by rw [z_sk_adv]; exact h), z_sk_adv]
        · exact z_sk_fail h
theorem z_sk_fac {e : Nat} (he : z_cd e) {φ : Int32 → v_Sf → v_Sf} (hφ : ∀ a, z_sk (φ a)) (a : Int32) : z_sk (g_readFactorF e φ a) := by
  intro S h
  have br : g_X5_expect (Int32.ofInt 93) (φ (a + Int32.ofInt 1) (g_X5_opens a S)) 66 6 = S 66 6 := by
    have h1 := z_sk_opens (c := a) h
    have h2 := hφ (a + Int32.ofInt 1) (g_X5_opens a S) (by rw [h1]; exact h)
    rw [z_sk_expect (by rw [h2, h1]; exact h), h2, h1]
  have lt : z_s (g_X1_put e (Int32.ofInt 2) (g_ixo (f_X5_here S)) S) 66 4 ((g_X1_put e (Int32.ofInt 2) (g_ixo (f_X5_here S)) S 66 4) + Int32.ofInt 1) 66 6 = S 66 6 := by
    rw [z_sk_adv, z_sk_put he]
  unfold g_readFactorF F_readFactorF
  split
  · split
    · split
      · split
        · exact z_sk_fail h
        · exact lt
      · split
        · split
          · exact z_sk_fail h
          · exact lt
        · exact z_sk_num he _ _ _ _ h
    · split
      · exact z_sk_opens h
      · exact br
  · split
    · split
      · exact z_sk_fail h
      · split
        · exact z_sk_fail h
        · exact z_sk_num he _ _ _ _ h
    · split
      · exact z_sk_opens h
      · exact br
theorem z_sk_trm {e : Nat} (he : z_cd e) {φ : Int32 → v_Sf → v_Sf} (hφ : ∀ a, z_sk (φ a)) (a : Int32) : ∀ (r k : Nat), z_sk (r_readTermF_7 e φ a r k) := by
  intro r
  induction r with
  | zero =>
    intro k S h
    rw [r_readTermF_7]
  | succ r ih =>
    intro k S h
    have st : ∀ c, r_readTermF_7 e φ a r (k + 1) (g_X1_put e c (Int32.ofInt 0) (g_readFactorF e φ a (z_s S 66 4 ((S 66 4) + (Int32.ofInt 1))))) 66 6 = S 66 6 := by
      intro c
      have h1 := z_sk_adv S ((S 66 4) + (Int32.ofInt 1))
      have h2 := z_sk_fac he hφ a (z_s S 66 4 ((S 66 4) + (Int32.ofInt 1))) (by rw [h1]; exact h)
      rw [ih _ _ (by rw [z_sk_put he, h2, h1]; exact h), z_sk_put he, h2, h1]
    rw [r_readTermF_7]
    split
    · exact st _
    · split
      · exact st _
      · split
        · rfl
        · exact st _
theorem z_sk_term {e : Nat} (he : z_cd e) {φ : Int32 → v_Sf → v_Sf} (hφ : ∀ a, z_sk (φ a)) (a : Int32) : z_sk (g_readTermF e φ a) := by
  intro S h
  unfold g_readTermF F_readTermF
  have h2 := z_sk_fac he hφ a S h
  rw [z_sk_trm he hφ a _ _ _ (by rw [h2]; exact h), h2]
theorem z_sk_sm {e : Nat} (he : z_cd e) {φ : Int32 → v_Sf → v_Sf} (hφ : ∀ a, z_sk (φ a)) (a : Int32) : ∀ (r k : Nat), z_sk (r_readSumF_7 e φ a r k) := by
  intro r
  induction r with
  | zero =>
    intro k S h
    rw [r_readSumF_7]
  | succ r ih =>
    intro k S h
    have st : ∀ c, r_readSumF_7 e φ a r (k + 1) (g_X1_put e c (Int32.ofInt 0) (g_readTermF e φ a (z_s S 66 4 ((S 66 4) + (Int32.ofInt 1))))) 66 6 = S 66 6 := by
      intro c
      have h1 := z_sk_adv S ((S 66 4) + (Int32.ofInt 1))
      have h2 := z_sk_term he hφ a (z_s S 66 4 ((S 66 4) + (Int32.ofInt 1))) (by rw [h1]; exact h)
      rw [ih _ _ (by rw [z_sk_put he, h2, h1]; exact h), z_sk_put he, h2, h1]
    rw [r_readSumF_7]
    split
    · exact st _
    · split
      · rfl
      · exact st _
theorem z_sk_sum {e : Nat} (he : z_cd e) {φ : Int32 → v_Sf → v_Sf} (hφ : ∀ a, z_sk (φ a)) (a : Int32) : z_sk (g_readSumF e φ a) := by
  intro S h
  unfold g_readSumF F_readSumF
  have h2 := z_sk_term he hφ a S h
  rw [z_sk_sm he hφ a _ _ _ (by rw [h2]; exact h), h2]
theorem z_sk_rdS {e : Nat} (he : z_cd e) : ∀ (f : Nat) (a : Int32), z_sk (g_rdS e f a) := by
  intro f
  induction f with
  | zero =>
    intro a
    rw [g_rdS]
    exact z_sk_sum he (fun _ _ _ => rfl) a
  | succ f ih =>
    intro a
    rw [g_rdS]
    exact z_sk_sum he ih a
/-! the reference's value as a loop -/
noncomputable def z_vE (T U : v_Sf) : Prop := ∃ N, z_itr (fun p : Int32 × v_Sf => s_X12_value_7 p.1 p.2) N (Int32.ofInt 1, T) = some U
noncomputable def z_vA (T U : v_Sf) : Prop := ∃ N, z_itr (fun p : Int32 × v_Sf => s_X12_value_7 p.1 p.2) N (f_X12_stays T, g_X12_stays T) = some U
theorem z_st01 (T : v_Sf) : f_X12_stays T = Int32.ofInt 0 ∨ f_X12_stays T = Int32.ofInt 1 := by
  unfold f_X12_stays
  split
  · exact Or.inr rfl
  · split
    · split
      · split
        · exact Or.inr rfl
        · exact Or.inl rfl
      · exact Or.inl rfl
    · exact Or.inr rfl
theorem z_v0 {T : v_Sf} (h : ¬ T 99 5 = 0) (x : Int32) : s_X12_value_7 x T = Sum.inr T := by
  unfold s_X12_value_7
  by_cases g : x = 0
  · rw [if_pos g, if_pos (z_bad h)]
  · rw [if_neg g, if_pos (z_bad h)]
theorem z_v1 {T : v_Sf} (h : T 99 5 = 0) (h25 : T 99 25 = 0) : s_X12_value_7 (Int32.ofInt 1) T = (if (f_X12_isGood (z_s (g_X12_factor T) 99 25 (Int32.ofInt 0))) = 0 then (Sum.inl ((Int32.ofInt 0), (z_s (g_X12_factor T) 99 25 (Int32.ofInt 0)))) else (if (f_X12_stays (z_s (g_X12_factor T) 99 25 (Int32.ofInt 0))) = 0 then (Sum.inl ((Int32.ofInt 0), (g_X12_stays (z_s (g_X12_factor T) 99 25 (Int32.ofInt 0))))) else (Sum.inl ((Int32.ofInt 1), (g_X12_stays (z_s (g_X12_factor T) 99 25 (Int32.ofInt 0))))))) := by
  unfold s_X12_value_7
  rw [if_neg (show ¬ Int32.ofInt 1 = 0 by decide), if_neg (z_good1 h), if_neg (not_not_intro h25)]
theorem z_vE_bad {T : v_Sf} (h : T 99 5 = 0) (h25 : T 99 25 = 0) (hb : ¬ g_X12_factor T 99 5 = 0) : ∃ U, z_vE T U ∧ U 99 5 = g_X12_factor T 99 5 := by
  have e5 : z_s (g_X12_factor T) 99 25 (Int32.ofInt 0) 99 5 = g_X12_factor T 99 5 := z_sn (by omega)
  have hb2 : ¬ z_s (g_X12_factor T) 99 25 (Int32.ofInt 0) 99 5 = 0 := by
    rw [e5]
    exact hb
  refine ⟨_, ⟨2, ?_⟩, e5⟩
  have s1 : s_X12_value_7 (Int32.ofInt 1) T = Sum.inl ((Int32.ofInt 0), (z_s (g_X12_factor T) 99 25 (Int32.ofInt 0))) := by
    rw [z_v1 h h25, if_pos (z_bad hb2)]
  rw [z_itr_l (s := fun p : Int32 × v_Sf => s_X12_value_7 p.1 p.2) s1]
  exact z_itr_r (s := fun p : Int32 × v_Sf => s_X12_value_7 p.1 p.2) (z_v0 hb2 _)
theorem z_vE_good {T U : v_Sf} (h : T 99 5 = 0) (h25 : T 99 25 = 0) (hg : g_X12_factor T 99 5 = 0) (hg25 : g_X12_factor T 99 25 = 0) (hU : z_vA (g_X12_factor T) U) : z_vE T U := by
  obtain ⟨N, hN⟩ := hU
  refine ⟨N + 1, ?_⟩
  have e : z_s (g_X12_factor T) 99 25 (Int32.ofInt 0) = g_X12_factor T := z_s_id hg25
  have s1 : s_X12_value_7 (Int32.ofInt 1) T = Sum.inl (f_X12_stays (g_X12_factor T), g_X12_stays (g_X12_factor T)) := by
    rw [z_v1 h h25, e, if_neg (z_good1 hg)]
    rcases z_st01 (g_X12_factor T) with q | q
    · rw [q, if_pos (by decide)]
    · rw [q, if_neg (by decide)]
  rw [z_itr_l (s := fun p : Int32 × v_Sf => s_X12_value_7 p.1 p.2) s1]
  exact hN
theorem z_vE_same {T T1 U : v_Sf} (h : T 99 5 = 0) (h25 : T 99 25 = 0) (h' : T1 99 5 = 0) (h25' : T1 99 25 = 0) (hf : g_X12_factor T = g_X12_factor T1) (hU : z_vE T1 U) : z_vE T U := by
  obtain ⟨N, hN⟩ := hU
  refine ⟨N, ?_⟩
  cases N with
  | zero => cases hN
  | succ N =>
    have s1 : s_X12_value_7 (Int32.ofInt 1) T = s_X12_value_7 (Int32.ofInt 1) T1 := by rw [z_v1 h h25, z_v1 h' h25', hf]
    rw [z_itr] at hN ⊢
    rw [s1]
    exact hN
/-! a factor -/
theorem z_fac_e {w : Nat → Int32} {n : Nat} : ∀ (d : Nat) (T : v_Sf) (p m q a : Nat), z_pm w T p n m q a → n - p ≤ d → a ≤ 6 → ∃ N U, z_itr (fun p => s_X12_factor_0 p) N T = some U := by
  intro d
  induction d with
  | zero =>
    intro T p m q a h hd ha
    have hp : ¬ p < n := by omega
    have e : f_X12_here T = Int32.ofInt 0 := by
      rw [z_pm_here h]
      exact if_neg hp
    refine ⟨1, g_X12_wrongs (Int32.ofInt 1) (T 99 3) T, z_itr_r (s := fun p => s_X12_factor_0 p) ?_⟩
    show s_X12_factor_0 T = _
    unfold s_X12_factor_0 f_X12_seesDigit
    rw [e, if_neg (z_good1 h.2.2.2.1), if_pos (by decide), if_pos (by decide), if_pos (by decide)]
  | succ d ih =>
    intro T p m q a h hd ha
    by_cases g : f_X12_here T = Int32.ofInt 91
    · have hs : s_X12_factor_0 T = Sum.inl (g_X12_opens T) := by
        unfold s_X12_factor_0
        rw [if_neg (z_good1 h.2.2.2.1), if_neg (not_not_intro g)]
      have hp : p < n := by
        rw [z_pm_here h, ← z_hcm (by decide)] at g
        exact z_hlt (by decide) g
      rcases Nat.lt_or_ge a 6 with h6 | h6
      · obtain ⟨N, U, hU⟩ := ih _ _ _ _ _ (z_m_opens h hp h6).1 (by omega) (by omega)
        exact ⟨N + 1, U, (z_itr_l (s := fun p => s_X12_factor_0 p) hs).trans hU⟩
      · obtain rfl : a = 6 := by omega
        refine ⟨2, g_X12_opens T, (z_itr_l (s := fun p => s_X12_factor_0 p) hs).trans (z_itr_r (s := fun p => s_X12_factor_0 p) ?_)⟩
        show s_X12_factor_0 (g_X12_opens T) = _
        unfold s_X12_factor_0
        rw [if_pos (z_bad (by rw [z_m_opens6 h]; exact z_phi0 (by decide) (by have := h.2.2.2.2.2.2.2.2.2; omega)))]
    · have hs : ∃ U, s_X12_factor_0 T = Sum.inr U := by
        unfold s_X12_factor_0
        rw [if_neg (z_good1 h.2.2.2.1), if_pos g]
        split
        · split
          · exact ⟨_, rfl⟩
          · exact ⟨_, rfl⟩
        · exact ⟨_, rfl⟩
      obtain ⟨U, hU⟩ := hs
      exact ⟨1, U, z_itr_r (s := fun p => s_X12_factor_0 p) hU⟩
theorem z_fac_1 {w : Nat → Int32} {n p m q a : Nat} {T : v_Sf} (h : z_pm w T p n m q a) (ha : a < 6) (g : f_X12_here T = Int32.ofInt 91) : g_X12_factor T = g_X12_factor (g_X12_opens T) := by
  have hp : p < n := by
    rw [z_pm_here h, ← z_hcm (by decide)] at g
    exact z_hlt (by decide) g
  have hs : s_X12_factor_0 T = Sum.inl (g_X12_opens T) := by
    unfold s_X12_factor_0
    rw [if_neg (z_good1 h.2.2.2.1), if_neg (not_not_intro g)]
  obtain ⟨N, U, hU⟩ := z_fac_e n _ _ _ _ _ (z_m_opens h hp ha).1 (by omega) (by omega)
  have h2 := (z_itr_l (n := N) (s := fun p => s_X12_factor_0 p) hs).trans hU
  unfold g_X12_factor F_X12_factor
  rw [z_lim_eq h2, z_lim_eq hU]
theorem z_fac_6 {w : Nat → Int32} {n p m q : Nat} {T : v_Sf} (h : z_pm w T p n m q 6) (g : f_X12_here T = Int32.ofInt 91) : g_X12_factor T 99 5 = z_phi 5 p := by
  have hs : s_X12_factor_0 T = Sum.inl (g_X12_opens T) := by
    unfold s_X12_factor_0
    rw [if_neg (z_good1 h.2.2.2.1), if_neg (not_not_intro g)]
  have e := z_m_opens6 h
  have hs2 : s_X12_factor_0 (g_X12_opens T) = Sum.inr (g_X12_opens T) := by
    unfold s_X12_factor_0
    rw [if_pos (z_bad (by rw [e]; exact z_phi0 (by decide) (by have := h.2.2.2.2.2.2.2.2.2; omega)))]
  have h2 := (z_itr_l (n := 1) (s := fun p => s_X12_factor_0 p) hs).trans (z_itr_r (s := fun p => s_X12_factor_0 p) hs2)
  unfold g_X12_factor F_X12_factor
  rw [z_lim_eq h2, e]
/-! a number -/
noncomputable def z_dig (y : Int32) : Prop := 48 ≤ y.toInt ∧ y.toInt ≤ 57
theorem z_digM {y : Int32} : (z_in y 48 57 = 0) ↔ ¬ z_dig y := by
  unfold z_in z_dig
  rw [z_pb0, decide_eq_false_iff_not]
theorem z_digC {x : Int32} : (¬ x < Int32.ofInt 48 ∧ ¬ Int32.ofInt 57 < x) ↔ z_dig x := by
  unfold z_dig
  rw [Int32.lt_iff_toInt_lt, Int32.lt_iff_toInt_lt, show (Int32.ofInt 48).toInt = 48 by decide, show (Int32.ofInt 57).toInt = 57 by decide]
  omega
theorem z_dig_h {w : Nat → Int32} {p n : Nat} : z_dig (z_hc w p n) ↔ z_dig (z_hm w p n) := by
  unfold z_hc z_hm
  by_cases h : p < n
  · rw [if_pos h, if_pos h]
  · rw [if_neg h, if_neg h]
    unfold z_dig
    decide
theorem z_dig_lt {w : Nat → Int32} {p n : Nat} (h : z_dig (z_hc w p n)) : p < n := by
  unfold z_hc at h
  by_cases g : p < n
  · exact g
  · rw [if_neg g] at h
    exact absurd h (by unfold z_dig; decide)
theorem z_inj {a b : Nat} (ha : a < 2147483648) (hb : b < 2147483648) : (z_i a = z_i b) ↔ a = b := by
  refine ⟨fun e => ?_, fun e => by rw [e]⟩
  have := congrArg Int32.toInt e
  rw [z_it3 ha, z_it3 hb] at this
  omega
theorem z_num {e : Nat} (he : z_cd e) {w : Nat → Int32} {n : Nat} (p0 : Nat) : ∀ (r k4 : Nat) (x : Int32) (S T : v_Sf) (p k m q a : Nat), r + k4 = 6 → k4 ≤ 5 → p = p0 + k4 → z_pc e w S p n k → z_pm w T p n m q a →
    (∃ p' v S2 T2, p ≤ p' ∧ (z_dig (z_hc w p n) → p < p') ∧ r_X5_readNumber_4 e r k4 x S = g_X1_put e (Int32.ofInt 1) v S2 ∧ z_pc e w S2 p' n k ∧ z_fC e k S S2 ∧ (∃ N, z_itr (fun p => s_X12_reads_7 (z_i p0) p.1 p.2) N (x, T) = some (v, T2)) ∧ z_pm w T2 p' n m q a ∧ z_fM m q T T2) ∨
    (∃ p' v U, p' ≤ n ∧ r_X5_readNumber_4 e r k4 x S 66 6 = z_phi 2 p' ∧ (∃ N, z_itr (fun p => s_X12_reads_7 (z_i p0) p.1 p.2) N (x, T) = some (v, U)) ∧ U 99 5 = z_phi 2 p') := by
  intro r
  induction r with
  | zero =>
    intro k4 x S T p k m q a h1 h2
    omega
  | succ r ih =>
    intro k4 x S T p k m q a h1 h2 hp hC hM
    have hh := z_pc_here hC
    have hm := z_pm_here hM
    have hm5 := hM.2.2.2.1
    have hn := hC.2.2.2.2.2.2.2
    have hpn := hC.2.2.2.2.2.2.1
    by_cases g : z_dig (z_hc w p n)
    · have hlt := z_dig_lt g
      have gm := z_dig_h.mp g
      have gc := z_digC.mpr g
      rw [r_X5_readNumber_4, hh, if_neg gc.1, if_neg gc.2]
      by_cases g5 : k4 = 5
      · rw [if_neg (by rw [g5]; decide)]
        refine Or.inr ⟨p, Int32.ofInt 10 * x + f_X12_here (g_X12_wrongs (Int32.ofInt 2) (T 99 3) T) - Int32.ofInt 48, z_s (g_X12_wrongs (Int32.ofInt 2) (T 99 3) T) 99 3 ((g_X12_wrongs (Int32.ofInt 2) (T 99 3) T 99 3) + Int32.ofInt 1), hpn, z_c_fail hC 2, ⟨2, ?_⟩, ?_⟩
        · have s1 : s_X12_reads_7 (z_i p0) x T = Sum.inl (Int32.ofInt 10 * x + f_X12_here (g_X12_wrongs (Int32.ofInt 2) (T 99 3) T) - Int32.ofInt 48, z_s (g_X12_wrongs (Int32.ofInt 2) (T 99 3) T) 99 3 ((g_X12_wrongs (Int32.ofInt 2) (T 99 3) T 99 3) + Int32.ofInt 1)) := by
            unfold s_X12_reads_7
            rw [if_neg (z_good1 hm5), if_neg (by unfold f_X12_seesDigit; rw [hm, z_digM]; exact not_not_intro gm), if_neg]
            rw [hM.2.1, hp, g5]
            refine not_not_intro ?_
            show z_i (p0 + 5) = z_i p0 + z_i 5
            unfold z_i
            rw [← Int32.ofInt_add]
            rfl
          rw [z_itr_l (s := fun p => s_X12_reads_7 (z_i p0) p.1 p.2) s1]
          refine z_itr_r (s := fun p => s_X12_reads_7 (z_i p0) p.1 p.2) ?_
          show s_X12_reads_7 (z_i p0) _ _ = _
          unfold s_X12_reads_7
          rw [if_pos]
          refine z_bad ?_
          show ¬ z_s (g_X12_wrongs (Int32.ofInt 2) (T 99 3) T) 99 3 ((g_X12_wrongs (Int32.ofInt 2) (T 99 3) T 99 3) + Int32.ofInt 1) 99 5 = 0
          rw [z_sn (by omega), z_m_wrong hM, z_ss]
          exact z_phi0 (by decide) (by omega)
        · rw [z_sn (by omega), z_m_wrong hM, z_ss]
      · rw [if_pos (by rw [show Int32.ofInt 5 = z_i 5 from rfl, z_inj (by omega) (by omega)]; exact g5)]
        have c1 := z_c_adv he hC hlt
        have m1 : z_pm w (z_s T 99 3 (T 99 3 + Int32.ofInt 1)) (p + 1) n m q a := by
          obtain ⟨a1, a2, a3, a4, a5, a6, a7, a8, a9, a10, a11⟩ := hM
          refine ⟨fun i hi => ?_, ?_, ?_, ?_, ?_, ?_, ?_, ?_, by omega, by omega, a11⟩
          · rw [z_sn (by omega)]
            exact a1 i hi
          · rw [z_ss, a2, z_i1]
          · rw [z_sn (by omega)]
            exact a3
          · rw [z_sn (by omega)]
            exact a4
          · rw [z_sn (by omega)]
            exact a5
          · rw [z_sn (by omega)]
            exact a6
          · rw [z_sn (by omega)]
            exact a7
          · rw [z_sn (by omega)]
            exact a8
        have f1 : z_fM m q T (z_s T 99 3 (T 99 3 + Int32.ofInt 1)) := fun a j q1 q2 q3 => z_sn (by omega)
        have s1 : s_X12_reads_7 (z_i p0) x T = Sum.inl (Int32.ofInt 10 * x + w p - Int32.ofInt 48, z_s T 99 3 (T 99 3 + Int32.ofInt 1)) := by
          unfold s_X12_reads_7
          rw [if_neg (z_good1 hm5), if_neg (by unfold f_X12_seesDigit; rw [hm, z_digM]; exact not_not_intro gm), if_pos, hm, z_hml hlt]
          rw [hM.2.1, hp]
          show ¬ z_i (p0 + k4) = z_i p0 + z_i 5
          rw [show z_i p0 + z_i 5 = z_i (p0 + 5) by unfold z_i; rw [← Int32.ofInt_add]; rfl, z_inj (by omega) (by omega)]
          omega
        rw [z_hcl hlt]
        rcases ih (k4 + 1) (Int32.ofInt 10 * x + w p - Int32.ofInt 48) _ _ (p + 1) k m q a (by omega) (by omega) (by omega) c1.1 m1 with ⟨p', v, S2, T2, b1, b2, b3, b4, b5, ⟨N, b6⟩, b7, b8⟩ | ⟨p', v, U, b1, b2, ⟨N, b3⟩, b4⟩
        · exact Or.inl ⟨p', v, S2, T2, by omega, fun _ => by omega, b3, b4, z_fC_t c1.2 b5 (Nat.le_refl _), ⟨N + 1, (z_itr_l (s := fun p => s_X12_reads_7 (z_i p0) p.1 p.2) s1).trans b6⟩, b7, z_fM_t f1 b8 (Nat.le_refl _) (Nat.le_refl _)⟩
        · exact Or.inr ⟨p', v, U, b1, b2, ⟨N + 1, (z_itr_l (s := fun p => s_X12_reads_7 (z_i p0) p.1 p.2) s1).trans b3⟩, b4⟩
    · refine Or.inl ⟨p, x, S, T, Nat.le_refl _, fun q => absurd q g, ?_, hC, z_fC_r _ _ _, ⟨1, ?_⟩, hM, z_fM_r _ _ _⟩
      · rw [r_X5_readNumber_4, hh]
        by_cases g1 : z_hc w p n < Int32.ofInt 48
        · rw [if_pos g1]
        · rw [if_neg g1]
          by_cases g2 : Int32.ofInt 57 < z_hc w p n
          · rw [if_pos g2]
          · exact absurd (z_digC.mp ⟨g1, g2⟩) g
      · refine z_itr_r (s := fun p => s_X12_reads_7 (z_i p0) p.1 p.2) ?_
        show s_X12_reads_7 (z_i p0) x T = _
        unfold s_X12_reads_7
        rw [if_neg (z_good1 hm5), if_pos (by unfold f_X12_seesDigit; rw [hm, z_digM]; exact fun q => g (z_dig_h.mpr q))]
