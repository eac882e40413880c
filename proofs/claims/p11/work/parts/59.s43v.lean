/-! timetables: both readers -/
theorem z_mulI (a b : Nat) : z_i a * z_i b = z_i (a * b) := by
  unfold z_i
  rw [← Int32.ofInt_mul]
  rfl
theorem z_sbI {a b : Nat} (h : b ≤ a) : z_i a - z_i b = z_i (a - b) := by
  unfold z_i
  rw [← Int32.ofInt_sub, show ((a : Nat) : Int) - ((b : Nat) : Int) = ((a - b : Nat) : Int) by omega]
noncomputable def z_tc (w : Nat → Int32) (S : v_Sf) (p n M : Nat) : Prop := (∀ i, i < 260 → S 46 i = w i) ∧ z_i n ≤ S 45 1 ∧ S 66 4 = z_i p ∧ S 66 5 = z_i n ∧ S 66 6 = 0 ∧ S 66 3 = z_i M ∧ p ≤ n ∧ n ≤ 60 ∧ M ≤ 49
noncomputable def z_tm (w : Nat → Int32) (T : v_Sf) (p n M a : Nat) (bg : Int32) : Prop := (∀ i, i < 260 → T 100 i &&& Int32.ofInt 255 = w i ∧ -128 ≤ (T 100 i).toInt ∧ (T 100 i).toInt ≤ 127) ∧ T 99 3 = z_i p ∧ T 99 4 = z_i n ∧ T 99 5 = 0 ∧ T 99 64 = z_i M ∧ T 99 65 = z_i a ∧ T 99 66 = bg ∧ p ≤ n ∧ n ≤ 60 ∧ M ≤ 48 ∧ a ≤ 2
noncomputable def z_tb (S T : v_Sf) (M : Nat) : Prop := ∀ j, j < M → z_ls (S 74 j) (T 133 j)
noncomputable def z_gC (M : Nat) (S S' : v_Sf) : Prop := ∀ a j, ¬ (a = 66 ∧ (j = 3 ∨ j = 4 ∨ j = 5 ∨ j = 6)) → ¬ (a = 74 ∧ M ≤ j) → S' a j = S a j
noncomputable def z_gM (M d : Nat) (T T' : v_Sf) : Prop := ∀ b j, ¬ (b = 99 ∧ (j = 3 ∨ j = 5 ∨ j = 64 ∨ j = 65 ∨ j = 66)) → ¬ (b = 133 ∧ M ≤ j) → ¬ ((b = 134 ∨ b = 135 ∨ b = 136) ∧ d ≤ j) → T' b j = T b j
noncomputable def z_gF (T U : v_Sf) : Prop := ∀ b j, ¬ (b = 99 ∧ (j = 3 ∨ j = 5 ∨ j = 64 ∨ j = 65 ∨ j = 66)) → ¬ (133 ≤ b ∧ b ≤ 136) → U b j = T b j
theorem z_gF_M {M d : Nat} {T T' U : v_Sf} (h1 : z_gM M d T T') (h2 : z_gF T' U) : z_gF T U := fun b j q1 q2 => (h2 b j q1 q2).trans (h1 b j q1 (by omega) (by omega))
theorem z_gC_t {M M' : Nat} {S S' S'' : v_Sf} (h1 : z_gC M S S') (h2 : z_gC M' S' S'') (h : M ≤ M') : z_gC M S S'' := fun a j q1 q2 => (h2 a j q1 (by omega)).trans (h1 a j q1 q2)
theorem z_gM_t {M M' d d' : Nat} {T T' T'' : v_Sf} (h1 : z_gM M d T T') (h2 : z_gM M' d' T' T'') (h : M ≤ M') (hd : d ≤ d') : z_gM M d T T'' := fun b j q1 q2 q3 => (h2 b j q1 (by omega) (by omega)).trans (h1 b j q1 q2 q3)
theorem z_tc_here {w : Nat → Int32} {S : v_Sf} {p n M : Nat} (h : z_tc w S p n M) : f_X5_here S = z_hc w p n := by
  obtain ⟨h1, h2, h3, h4, h5, h6, h7, h8, h9⟩ := h
  unfold f_X5_here f_X8_at z_hc
  rw [h3, h4]
  by_cases g : p < n
  · have g1 : ¬ z_i n ≤ z_i p := by
      rw [z_ile (by omega) (by omega)]
      omega
    have g2 : ¬ z_i p < 0 := by
      rw [show (0 : Int32) = z_i 0 from rfl, z_ilt (by omega) (by omega)]
      omega
    have g3 : ¬ S 45 1 ≤ z_i p := by
      have a1 := Int32.le_iff_toInt_le.mp h2
      rw [z_it3 (by omega)] at a1
      rw [Int32.le_iff_toInt_le, z_it3 (by omega)]
      omega
    rw [if_neg g1, if_neg g2, if_neg g3, if_pos g, z_iin (by omega)]
    exact h1 p (by omega)
  · rw [if_pos (by rw [z_ile (by omega) (by omega)]; omega), if_neg g]
theorem z_tm_here {w : Nat → Int32} {T : v_Sf} {p n M a : Nat} {bg : Int32} (h : z_tm w T p n M a bg) : f_X12_here T = z_hm w p n := by
  obtain ⟨h1, h2, h3, h4, h5, h6, h7, h8, h9, h10, h11⟩ := h
  unfold f_X12_here z_hm
  rw [h2, h3]
  by_cases g : p < n
  · have g1 : ¬ z_i n ≤ z_i p := by
      rw [z_ile (by omega) (by omega)]
      omega
    rw [if_neg g1, if_pos g, z_iin (by omega)]
    exact (h1 p (by omega)).1
  · rw [if_pos (by rw [z_ile (by omega) (by omega)]; omega), if_neg g]
theorem z_tc_adv {w : Nat → Int32} {S : v_Sf} {p n M : Nat} (h : z_tc w S p n M) (hp : p < n) : z_tc w (z_s S 66 4 (S 66 4 + Int32.ofInt 1)) (p + 1) n M := by
  obtain ⟨h1, h2, h3, h4, h5, h6, h7, h8, h9⟩ := h
  refine ⟨fun i hi => ?_, ?_, ?_, ?_, ?_, ?_, by omega, h8, h9⟩
  · rw [z_sn (by omega)]
    exact h1 i hi
  · rw [z_sn (by omega)]
    exact h2
  · rw [z_ss, h3, z_i1]
  · rw [z_sn (by omega)]
    exact h4
  · rw [z_sn (by omega)]
    exact h5
  · rw [z_sn (by omega)]
    exact h6
theorem z_tc_fail {w : Nat → Int32} {S : v_Sf} {p n M : Nat} (h : z_tc w S p n M) (c : Int) (i : Nat) : g_X5_fail (Int32.ofInt c) (z_i i) S 66 6 = z_phi c i := by
  unfold g_X5_fail z_phi
  rw [if_neg (not_not_intro h.2.2.2.2.1), z_sn (by omega), z_ss]
theorem z_tm_wrong {w : Nat → Int32} {T : v_Sf} {p n M a : Nat} {bg : Int32} (h : z_tm w T p n M a bg) (c : Int) (i : Nat) : g_X12_wrongs (Int32.ofInt c) (z_i i) T = z_s T 99 5 (z_phi c i) := by
  unfold g_X12_wrongs z_phi
  rw [if_pos (by rw [h.2.2.2.1]; decide)]
theorem z_tm_w {w : Nat → Int32} {T T' : v_Sf} {p n M a p' M' a' : Nat} {bg bg' : Int32} (h : z_tm w T p n M a bg) (f : ∀ b j, (b = 100 ∨ b = 99 ∧ (j = 4 ∨ j = 5)) → T' b j = T b j) (h3 : T' 99 3 = z_i p') (h64 : T' 99 64 = z_i M') (h65 : T' 99 65 = z_i a') (h66 : T' 99 66 = bg') (hp : p' ≤ n) (hM : M' ≤ 48) (ha : a' ≤ 2) : z_tm w T' p' n M' a' bg' := by
  obtain ⟨h1, h2, h3', h4, h5, h6, h7, h8, h9, h10, h11⟩ := h
  refine ⟨fun i hi => ?_, h3, ?_, ?_, h64, h65, h66, hp, h9, hM, ha⟩
  · rw [f _ _ (by omega)]
    exact h1 i hi
  · rw [f _ _ (by omega)]
    exact h3'
  · rw [f _ _ (by omega)]
    exact h4
/-! the class repeats -/
theorem z_rep_cl {once all : Nat} (ho : 1 ≤ once) (ha : all ≤ 48) : ∀ (r k : Nat) (S : v_Sf), k + r = all → once ≤ k → (∀ a j, ¬ (a = 66 ∧ j = 3) → ¬ (a = 74 ∧ k ≤ j ∧ j < all) → r_X5_repeat_37 (z_i once) (z_i all) r (z_i k) S a j = S a j) ∧ r_X5_repeat_37 (z_i once) (z_i all) r (z_i k) S 66 3 = z_i all ∧ ∀ j, k ≤ j → j < all → r_X5_repeat_37 (z_i once) (z_i all) r (z_i k) S 74 j = r_X5_repeat_37 (z_i once) (z_i all) r (z_i k) S 74 (j - once) := by
  intro r
  induction r with
  | zero =>
    intro k S hk hok
    rw [r_X5_repeat_37]
    exact ⟨fun a j q1 q2 => z_sn q1, z_ss, fun j h1 h2 => by omega⟩
  | succ r ih =>
    intro k S hk hok
    rw [r_X5_repeat_37, if_neg (by rw [z_ilt (by omega) (by omega)]; omega), if_neg (by rw [show Int32.ofNat 49 = z_i 49 by decide, z_ile (by omega) (by omega)]; omega), z_i1, z_iin (by omega), z_sbI hok, z_iin (by omega)]
    obtain ⟨f1, f2, f3⟩ := ih (k + 1) (z_s S 74 k (S 74 (k - once))) (by omega) (by omega)
    refine ⟨fun a j q1 q2 => ?_, f2, fun j h1 h2 => ?_⟩
    · rw [f1 a j q1 (by omega), z_sn (by omega)]
    · by_cases q : j = k
      · rw [q, f1 74 k (by omega) (by omega), z_ss, f1 74 (k - once) (by omega) (by omega), z_sn (by omega)]
      · exact f3 j (by omega) h2
theorem z_per {once all : Nat} (ho : 1 ≤ once) {A B : Nat → Int32} {M : Nat} (h0 : ∀ j, j < M + once → A j = B j) (h1 : ∀ j, M + once ≤ j → j < all → A j = A (j - once)) : ∀ k, M + k < all → A (M + k) = B (M + k % once) := by
  intro k
  induction k using Nat.strongRecOn with
  | _ k ih =>
    intro hk
    by_cases q : k < once
    · rw [h0 _ (by omega), Nat.mod_eq_of_lt q]
    · rw [h1 (M + k) (by omega) hk, show M + k - once = M + (k - once) by omega, ih (k - once) (by omega) (by omega), ← Nat.mod_eq_sub_mod (by omega)]
theorem z_rep_c {w : Nat → Int32} {S : v_Sf} {p n M once times i : Nat} (h : z_tc w S p n (M + once)) (ho : 1 ≤ once) (ht : 1 ≤ times ∧ times ≤ 9) (hi : i ≤ 60) : (M + once * times ≤ 48 ∧ z_tc w (g_X5_repeat (z_i M) (z_i times) (z_i i) S) p n (M + once * times) ∧ z_gC (M + once) S (g_X5_repeat (z_i M) (z_i times) (z_i i) S) ∧ ∀ k, k < once * times → g_X5_repeat (z_i M) (z_i times) (z_i i) S 74 (M + k) = S 74 (M + k % once)) ∨ (¬ M + once * times ≤ 48 ∧ g_X5_repeat (z_i M) (z_i times) (z_i i) S 66 6 = z_phi 6 i) := by
  have h' := h
  obtain ⟨h1, h2, h3, h4, h5, h6, h7, h8, h9⟩ := h
  have hle : once ≤ once * times := Nat.le_mul_of_pos_right once (by omega)
  have hub : once * times ≤ 49 * 9 := Nat.mul_le_mul (by omega) ht.2
  have E : z_i M + (S 66 3 - z_i M) * z_i times = z_i (M + once * times) := by
    rw [h6, z_sbI (by omega), show M + once - M = once by omega, z_mulI, z_iadd]
  have E0 : S 66 3 - z_i M = z_i once := by rw [h6, z_sbI (by omega), show M + once - M = once by omega]
  unfold g_X5_repeat F_X5_repeat
  rw [E, E0, h6]
  by_cases q : M + once * times ≤ 48
  · refine Or.inl ⟨q, ?_⟩
    rw [if_pos (by rw [show Int32.ofInt 48 = z_i 48 from rfl, z_ile (by omega) (by omega)]; exact q), z_it3 (by omega), z_it3 (by omega), show (((M + once * times : Nat) : Int) - ((M + once : Nat) : Int)).toNat = M + once * times - (M + once) by omega]
    obtain ⟨f1, f2, f3⟩ := z_rep_cl ho q (M + once * times - (M + once)) (M + once) S (by omega) (by omega)
    refine ⟨⟨fun i hi => ?_, ?_, ?_, ?_, ?_, f2, h7, h8, by omega⟩, fun a j q1 q2 => f1 a j (by omega) (by omega), fun k hk => ?_⟩
    · rw [f1 _ _ (by omega) (by omega)]
      exact h1 i hi
    · rw [f1 _ _ (by omega) (by omega)]
      exact h2
    · rw [f1 _ _ (by omega) (by omega)]
      exact h3
    · rw [f1 _ _ (by omega) (by omega)]
      exact h4
    · rw [f1 _ _ (by omega) (by omega)]
      exact h5
    · exact z_per (all := M + once * times) ho (fun j hj => f1 74 j (by omega) (by omega)) (fun j a b => f3 j a b) k (by omega)
  · refine Or.inr ⟨q, ?_⟩
    rw [if_neg (by rw [show Int32.ofInt 48 = z_i 48 from rfl, z_ile (by omega) (by omega)]; exact q)]
    exact z_tc_fail h' 6 i
/-! the reference repeats -/
theorem z_rep_ml {M once times : Nat} (ho : 1 ≤ once) (hq : M + once * times ≤ 48) : ∀ (r k : Nat) (T : v_Sf), k + r = once * times → once ≤ k → ∃ U, (∃ N, z_itr (fun p : Int32 × v_Sf => s_X12_repeats_38 (z_i M) (z_i times) (z_i once) p.1 p.2) N (z_i k, T) = some U) ∧ (∀ a j, ¬ (a = 99 ∧ j = 64) → ¬ (a = 133 ∧ M + k ≤ j) → U a j = T a j) ∧ U 99 64 = z_i (M + once * times) ∧ ∀ j, k ≤ j → j < once * times → U 133 (M + j) = T 133 (M + j % once) := by
  intro r
  induction r with
  | zero =>
    intro k T hk hok
    refine ⟨z_s T 99 64 (z_i M + z_i once * z_i times), ⟨1, z_itr_r (s := fun p : Int32 × v_Sf => s_X12_repeats_38 (z_i M) (z_i times) (z_i once) p.1 p.2) ?_⟩, fun a j q1 q2 => z_sn q1, ?_, fun j h1 h2 => by omega⟩
    · show s_X12_repeats_38 _ _ _ _ _ = _
      unfold s_X12_repeats_38
      rw [if_pos (by rw [z_mulI, z_ile (by omega) (by omega)]; omega)]
    · rw [z_ss, z_mulI, z_iadd]
  | succ r ih =>
    intro k T hk hok
    have em : z_i k - z_i k / z_i once * z_i once = z_i (k % once) := by
      refine z_inj2 ?_
      rw [z_remE (by rw [z_it3 (by omega)]; omega) (by rw [z_it3 (by omega)]; omega), z_it3 (by omega), z_it3 (by omega), z_it3 (by have := Nat.mod_lt k (show 0 < once by omega); omega)]
      omega
    have hm := Nat.mod_lt k (show 0 < once by omega)
    have s1 : s_X12_repeats_38 (z_i M) (z_i times) (z_i once) (z_i k) T = Sum.inl (z_i (k + 1), z_s T 133 (M + k) (T 133 (M + k % once))) := by
      unfold s_X12_repeats_38
      rw [if_neg (by rw [z_mulI, z_ile (by omega) (by omega)]; omega), z_i1, em, z_iadd, z_iadd, z_iin (by omega), z_iin (by omega)]
    obtain ⟨U, ⟨N, hN⟩, f1, f2, f3⟩ := ih (k + 1) (z_s T 133 (M + k) (T 133 (M + k % once))) (by omega) (by omega)
    refine ⟨U, ⟨N + 1, (z_itr_l (s := fun p : Int32 × v_Sf => s_X12_repeats_38 (z_i M) (z_i times) (z_i once) p.1 p.2) s1).trans hN⟩, fun a j q1 q2 => ?_, f2, fun j h1 h2 => ?_⟩
    · rw [f1 a j q1 (by omega), z_sn (by omega)]
    · have hj := Nat.mod_lt j (show 0 < once by omega)
      by_cases q : j = k
      · rw [q, f1 133 (M + k) (by omega) (by omega), z_ss]
      · rw [f3 j (by omega) h2, z_sn (by omega)]
theorem z_rep_m {w : Nat → Int32} {T : v_Sf} {p n M once times i a : Nat} {bg : Int32} (h : z_tm w T p n (M + once) a bg) (ho : 1 ≤ once) (ht : 1 ≤ times ∧ times ≤ 9) : (M + once * times ≤ 48 → z_tm w (g_X12_repeats (z_i M) (z_i times) (z_i i) T) p n (M + once * times) a bg ∧ z_gM (M + once) 3 T (g_X12_repeats (z_i M) (z_i times) (z_i i) T) ∧ ∀ k, k < once * times → g_X12_repeats (z_i M) (z_i times) (z_i i) T 133 (M + k) = T 133 (M + k % once)) ∧ (¬ M + once * times ≤ 48 → i ≤ 60 → g_X12_repeats (z_i M) (z_i times) (z_i i) T = z_s T 99 5 (z_phi 6 i)) := by
  have h' := h
  obtain ⟨h1, h2, h3, h4, h5, h6, h7, h8, h9, h10, h11⟩ := h
  have hle : once ≤ once * times := Nat.le_mul_of_pos_right once (by omega)
  have hub : once * times ≤ 49 * 9 := Nat.mul_le_mul (by omega) ht.2
  have E : z_i M + (T 99 64 - z_i M) * z_i times = z_i (M + once * times) := by
    rw [h5, z_sbI (by omega), show M + once - M = once by omega, z_mulI, z_iadd]
  have E0 : T 99 64 - z_i M = z_i once := by rw [h5, z_sbI (by omega), show M + once - M = once by omega]
  unfold g_X12_repeats F_X12_repeats
  rw [E, E0]
  refine ⟨fun q => ?_, fun q hi => ?_⟩
  · rw [if_pos (by rw [show Int32.ofInt 48 = z_i 48 from rfl, z_ile (by omega) (by omega)]; exact q), if_pos (z_good1 h4)]
    obtain ⟨U, ⟨N, hN⟩, f1, f2, f3⟩ := z_rep_ml ho q (once * times - once) once T (by omega) (Nat.le_refl _)
    rw [z_lim_eq hN]
    refine ⟨z_tm_w h' (fun b j q => f1 b j (by omega) (by omega)) ?_ f2 ?_ ?_ h8 q h11, fun b j q1 q2 q3 => f1 b j (by omega) (by omega), fun k hk => ?_⟩
    · rw [f1 _ _ (by omega) (by omega)]
      exact h2
    · rw [f1 _ _ (by omega) (by omega)]
      exact h6
    · rw [f1 _ _ (by omega) (by omega)]
      exact h7
    · by_cases g : k < once
      · rw [f1 133 (M + k) (by omega) (by omega), Nat.mod_eq_of_lt g]
      · exact f3 k (by omega) hk
  · have n6 := z_phi_n (c := 6) (p := i) (by decide) (by omega)
    rw [if_neg (by rw [show Int32.ofInt 48 = z_i 48 from rfl, z_ile (by omega) (by omega)]; exact q), z_tm_wrong h' 6 i, if_neg (not_not_intro (z_bad (by rw [z_ss]; exact z_ng n6)))]
