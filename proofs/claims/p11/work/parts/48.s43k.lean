/-! what the reference's reader leaves alone -/
theorem z_itr_inv {α β : Type} {s : α → α ⊕ β} (P : α → Prop) (Q : β → Prop) (h1 : ∀ a a', P a → s a = .inl a' → P a') (h2 : ∀ a b, P a → s a = .inr b → Q b) : ∀ (n : Nat) (a : α) (b : β), P a → z_itr s n a = some b → Q b := by
  intro n
  induction n with
  | zero => intro a b _ h; cases h
  | succ n ih =>
    intro a b ha h
    cases hs : s a with
    | inl a' =>
      rw [z_itr_l hs] at h
      exact ih a' b (h1 a a' ha hs) h
    | inr c =>
      rw [z_itr_r hs] at h
      exact Option.some.inj h ▸ h2 a c ha hs
theorem z_lim_inv {α β : Type} {s : α → α ⊕ β} {b0 : β} {a : α} (P : α → Prop) (Q : β → Prop) (h1 : ∀ a a', P a → s a = .inl a' → P a') (h2 : ∀ a b, P a → s a = .inr b → Q b) (h0 : Q b0) (ha : P a) : Q (z_lim s b0 a) := by
  by_cases hx : ∃ b, ∃ n, z_itr s n a = some b
  · obtain ⟨b, n, hn⟩ := hx
    rw [z_lim_eq hn]
    exact z_itr_inv P Q h1 h2 n a b ha hn
  · unfold z_lim
    rw [dif_neg hx]
    exact h0
noncomputable def z_a0 (a i : Nat) : Prop := a = 99 ∧ (i = 7 ∨ i = 9) ∨ a = 111 ∨ a = 112
noncomputable def z_a1 (a i : Nat) : Prop := a = 99 ∧ (i = 3 ∨ i = 5 ∨ i = 6 ∨ i = 7 ∨ i = 8 ∨ i = 9 ∨ i = 24) ∨ 107 ≤ a ∧ a ≤ 113
section FRA
variable {Pr : v_Sf → Prop}
theorem z_P_emit (hp : ∀ T a i v, Pr T → z_a0 a i → Pr (z_s T a i v)) {T : v_Sf} (c v : Int32) (h : Pr T) : Pr (g_X12_emit c v T) := by
  unfold g_X12_emit
  split
  · exact hp _ _ _ _ (hp _ _ _ _ (hp _ _ _ _ h (by unfold z_a0; omega)) (by unfold z_a0; omega)) (by unfold z_a0; omega)
  · exact h
theorem z_P_popE (hp : ∀ T a i v, Pr T → z_a0 a i → Pr (z_s T a i v)) {T : v_Sf} (h : Pr T) : Pr (z_popE T) := hp _ _ _ _ (z_P_emit hp _ _ h) (by unfold z_a0; omega)
theorem z_P_sums (hp : ∀ T a i v, Pr T → z_a0 a i → Pr (z_s T a i v)) {T : v_Sf} (x : Int32) (h : Pr T) : Pr (g_X12_sums x T) := by
  unfold g_X12_sums F_X12_sums
  refine z_lim_inv Pr Pr (fun a a' ha hs => ?_) (fun a b ha hs => ?_) h h
  · by_cases g : z_tms (f_X12_top a) ∨ ¬ x = 0 ∧ z_pls (f_X12_top a)
    · rw [z_sums_s1 g] at hs
      exact Sum.inl.inj hs ▸ z_P_popE hp ha
    · rw [z_sums_s0 g] at hs
      cases hs
  · by_cases g : z_tms (f_X12_top a) ∨ ¬ x = 0 ∧ z_pls (f_X12_top a)
    · rw [z_sums_s1 g] at hs
      cases hs
    · rw [z_sums_s0 g] at hs
      exact Sum.inr.inj hs ▸ ha
theorem z_P_joins (hp : ∀ T a i v, Pr T → z_a0 a i → Pr (z_s T a i v)) {T : v_Sf} (x : Int32) (h : Pr T) : Pr (g_X12_joins x T) := by
  unfold g_X12_joins F_X12_joins
  refine z_lim_inv Pr Pr (fun a a' ha hs => ?_) (fun a b ha hs => ?_) h h
  · by_cases g : f_X12_top a = Int32.ofInt 38 ∨ ¬ x = 0 ∧ f_X12_top a = Int32.ofInt 124
    · rw [z_joins_s1 g] at hs
      exact Sum.inl.inj hs ▸ z_P_popE hp ha
    · rw [z_joins_s0 g] at hs
      cases hs
  · by_cases g : f_X12_top a = Int32.ofInt 38 ∨ ¬ x = 0 ∧ f_X12_top a = Int32.ofInt 124
    · rw [z_joins_s1 g] at hs
      cases hs
    · rw [z_joins_s0 g] at hs
      exact Sum.inr.inj hs ▸ ha
theorem z_a01 (hp : ∀ T a i v, Pr T → z_a1 a i → Pr (z_s T a i v)) : ∀ T a i v, Pr T → z_a0 a i → Pr (z_s T a i v) := fun T a i v h q => hp T a i v h (by unfold z_a0 at q; unfold z_a1; omega)
theorem z_P_ends (hp : ∀ T a i v, Pr T → z_a1 a i → Pr (z_s T a i v)) {T : v_Sf} (h : Pr T) : Pr (g_X12_ends T) := by
  unfold g_X12_ends F_X12_ends
  refine z_lim_inv Pr Pr (fun a a' ha hs => ?_) (fun a b ha hs => ?_) h h
  · by_cases g : f_X12_top a = Int32.ofInt 33
    · rw [z_ends_s1 g] at hs
      exact Sum.inl.inj hs ▸ hp _ _ _ _ (hp _ _ _ _ (z_P_emit (z_a01 hp) _ _ ha) (by unfold z_a1; omega)) (by unfold z_a1; omega)
    · rw [z_ends_s0 g] at hs
      cases hs
  · by_cases g : f_X12_top a = Int32.ofInt 33
    · rw [z_ends_s1 g] at hs
      cases hs
    · rw [z_ends_s0 g] at hs
      exact Sum.inr.inj hs ▸ ha
theorem z_P_wrongs (hp : ∀ T a i v, Pr T → z_a1 a i → Pr (z_s T a i v)) {T : v_Sf} (c b : Int32) (h : Pr T) : Pr (g_X12_wrongs c b T) := by
  unfold g_X12_wrongs
  split <;> exact hp _ _ _ _ h (by unfold z_a1; omega)
theorem z_P_puts (hp : ∀ T a i v, Pr T → z_a1 a i → Pr (z_s T a i v)) {T : v_Sf} (c : Int32) (h : Pr T) : Pr (g_X12_puts c T) := hp _ _ _ _ (hp _ _ _ _ (hp _ _ _ _ h (by unfold z_a1; omega)) (by unfold z_a1; omega)) (by unfold z_a1; omega)
theorem z_P_opens (hp : ∀ T a i v, Pr T → z_a1 a i → Pr (z_s T a i v)) {T : v_Sf} (h : Pr T) : Pr (g_X12_opens T) := by
  unfold g_X12_opens
  split
  · exact z_P_puts hp _ (hp _ _ _ _ h (by unfold z_a1; omega))
  · exact z_P_puts hp _ (hp _ _ _ _ (z_P_wrongs hp _ _ h) (by unfold z_a1; omega))
theorem z_P_reads (hp : ∀ T a i v, Pr T → z_a1 a i → Pr (z_s T a i v)) {T : v_Sf} (h : Pr T) : Pr (g_X12_reads T) := by
  unfold g_X12_reads F_X12_reads
  refine z_lim_inv (fun p : Int32 × v_Sf => Pr p.2) (fun p : Int32 × v_Sf => Pr p.2) (fun a a' ha hs => ?_) (fun a b ha hs => ?_) h h
  · revert hs
    show s_X12_reads_7 _ _ _ = _ → _
    unfold s_X12_reads_7
    intro hs
    split at hs
    · cases hs
    · split at hs
      · cases hs
      · split at hs
        · exact Sum.inl.inj hs ▸ hp _ _ _ _ ha (by unfold z_a1; omega)
        · exact Sum.inl.inj hs ▸ hp _ _ _ _ (z_P_wrongs hp _ _ ha) (by unfold z_a1; omega)
  · revert hs
    show s_X12_reads_7 _ _ _ = _ → _
    unfold s_X12_reads_7
    intro hs
    split at hs
    · exact Sum.inr.inj hs ▸ ha
    · split at hs
      · exact Sum.inr.inj hs ▸ ha
      · split at hs <;> cases hs
theorem z_P_factor (hp : ∀ T a i v, Pr T → z_a1 a i → Pr (z_s T a i v)) {T : v_Sf} (h : Pr T) : Pr (g_X12_factor T) := by
  unfold g_X12_factor F_X12_factor
  refine z_lim_inv Pr Pr (fun a a' ha hs => ?_) (fun a b ha hs => ?_) h h
  · revert hs
    show s_X12_factor_0 _ = _ → _
    unfold s_X12_factor_0
    intro hs
    split at hs
    · cases hs
    · split at hs
      · split at hs
        · split at hs <;> cases hs
        · cases hs
      · exact Sum.inl.inj hs ▸ z_P_opens hp ha
  · revert hs
    show s_X12_factor_0 _ = _ → _
    unfold s_X12_factor_0
    intro hs
    split at hs
    · exact Sum.inr.inj hs ▸ ha
    · split at hs
      · split at hs
        · split at hs
          · exact Sum.inr.inj hs ▸ z_P_wrongs hp _ _ ha
          · exact Sum.inr.inj hs ▸ hp _ _ _ _ (z_P_emit (z_a01 hp) _ _ ha) (by unfold z_a1; omega)
        · exact Sum.inr.inj hs ▸ z_P_emit (z_a01 hp) _ _ (z_P_reads hp ha)
      · cases hs
theorem z_P_stays (hp : ∀ T a i v, Pr T → z_a1 a i → Pr (z_s T a i v)) (h25 : ∀ T v, Pr T → Pr (z_s T 99 25 v)) {T : v_Sf} (h : Pr T) : Pr (g_X12_stays T) := by
  have s1 := z_P_sums (z_a01 hp) (Int32.ofInt 1) h
  unfold g_X12_stays
  split
  · exact z_P_puts hp _ (z_P_sums (z_a01 hp) _ h)
  · split
    · split
      · split
        · exact h25 _ _ (hp _ _ _ _ (hp _ _ _ _ (hp _ _ _ _ s1 (by unfold z_a1; omega)) (by unfold z_a1; omega)) (by unfold z_a1; omega))
        · exact z_P_wrongs hp _ _ s1
      · exact s1
    · exact z_P_puts hp _ (z_P_sums (z_a01 hp) _ h)
theorem z_P_value (hp : ∀ T a i v, Pr T → z_a1 a i → Pr (z_s T a i v)) (h25 : ∀ T v, Pr T → Pr (z_s T 99 25 v)) {T : v_Sf} (h : Pr T) : Pr (g_X12_value T) := by
  unfold g_X12_value F_X12_value
  refine z_lim_inv (fun p : Int32 × v_Sf => Pr p.2) Pr (fun a a' ha hs => ?_) (fun a b ha hs => ?_) h (h25 _ _ h)
  · revert hs
    show s_X12_value_7 _ _ = _ → _
    unfold s_X12_value_7
    intro hs
    split at hs
    · split at hs
      · cases hs
      · split at hs <;> cases hs
    · split at hs
      · cases hs
      · split at hs
        · split at hs
          · exact Sum.inl.inj hs ▸ h25 _ _ ha
          · split at hs
            · exact Sum.inl.inj hs ▸ z_P_stays hp h25 (h25 _ _ ha)
            · exact Sum.inl.inj hs ▸ z_P_stays hp h25 (h25 _ _ ha)
        · split at hs
          · exact Sum.inl.inj hs ▸ h25 _ _ (z_P_factor hp ha)
          · split at hs
            · exact Sum.inl.inj hs ▸ z_P_stays hp h25 (h25 _ _ (z_P_factor hp ha))
            · exact Sum.inl.inj hs ▸ z_P_stays hp h25 (h25 _ _ (z_P_factor hp ha))
  · revert hs
    show s_X12_value_7 _ _ = _ → _
    unfold s_X12_value_7
    intro hs
    split at hs
    · split at hs
      · exact Sum.inr.inj hs ▸ ha
      · split at hs
        · exact Sum.inr.inj hs ▸ ha
        · exact Sum.inr.inj hs ▸ z_P_wrongs hp _ _ ha
    · split at hs
      · exact Sum.inr.inj hs ▸ ha
      · split at hs
        · split at hs
          · cases hs
          · split at hs <;> cases hs
        · split at hs
          · cases hs
          · split at hs <;> cases hs
theorem z_P_piece (hp : ∀ T a i v, Pr T → z_a1 a i → Pr (z_s T a i v)) (hv : ∀ T, Pr T → Pr (g_X12_value T)) {T : v_Sf} (h : Pr T) : Pr (g_X12_pieceOfC T) := by
  unfold g_X12_pieceOfC F_X12_pieceOfC
  refine z_lim_inv Pr Pr (fun a a' ha hs => ?_) (fun a b ha hs => ?_) h h
  · by_cases g5 : a 99 5 = 0
    · by_cases g : f_X12_here a = Int32.ofInt 33 ∨ f_X12_here a = Int32.ofInt 40
      · rw [z_pie_s1 g5 g] at hs
        exact Sum.inl.inj hs ▸ z_P_opens hp ha
      · rw [z_pie_s0 g5 g] at hs
        cases hs
    · revert hs
      show s_X12_pieceOfC_0 _ = _ → _
      unfold s_X12_pieceOfC_0
      rw [if_pos (z_bad g5)]
      intro hs
      cases hs
  · by_cases g5 : a 99 5 = 0
    · by_cases g : f_X12_here a = Int32.ofInt 33 ∨ f_X12_here a = Int32.ofInt 40
      · rw [z_pie_s1 g5 g] at hs
        cases hs
      · rw [z_pie_s0 g5 g] at hs
        rw [← Sum.inr.inj hs]
        have v1 := hv a ha
        have v2 := hv _ (z_P_puts hp (f_X12_here (g_X12_value a)) v1)
        unfold z_pieR
        split
        · split
          · split
            · exact z_P_ends hp (z_P_popE (z_a01 hp) v2)
            · exact v2
          · exact z_P_wrongs hp _ _ v1
        · exact v1
    · revert hs
      show s_X12_pieceOfC_0 _ = _ → _
      unfold s_X12_pieceOfC_0
      rw [if_pos (z_bad g5)]
      intro hs
      exact Sum.inr.inj hs ▸ ha
theorem z_P_goes (hp : ∀ T a i v, Pr T → z_a1 a i → Pr (z_s T a i v)) {T : v_Sf} (h : Pr T) : Pr (g_X12_goesBehind T) := by
  have j1 := z_P_joins (z_a01 hp) (Int32.ofInt 1) h
  unfold g_X12_goesBehind
  split
  · exact z_P_puts hp _ (z_P_joins (z_a01 hp) _ h)
  · split
    · split
      · split
        · exact z_P_ends hp (hp _ _ _ _ (hp _ _ _ _ (hp _ _ _ _ (hp _ _ _ _ j1 (by unfold z_a1; omega)) (by unfold z_a1; omega)) (by unfold z_a1; omega)) (by unfold z_a1; omega))
        · exact hp _ _ _ _ (hp _ _ _ _ (hp _ _ _ _ (hp _ _ _ _ j1 (by unfold z_a1; omega)) (by unfold z_a1; omega)) (by unfold z_a1; omega)) (by unfold z_a1; omega)
      · exact z_P_wrongs hp _ _ h
    · exact z_P_puts hp _ j1
theorem z_P_condition (hp : ∀ T a i v, Pr T → z_a1 a i → Pr (z_s T a i v)) (hv : ∀ T, Pr T → Pr (g_X12_value T)) {T : v_Sf} (h : Pr T) : Pr (g_X12_condition T) := by
  have lp : ∀ (b0 : v_Sf) (x : Int32) (X : v_Sf), Pr b0 → Pr X → Pr (z_lim (fun p : Int32 × v_Sf => s_X12_condition_37 p.1 p.2) b0 (x, X)) := by
    intro b0 x X h0 hX
    refine z_lim_inv (fun p : Int32 × v_Sf => Pr p.2) Pr (fun a a' ha hs => ?_) (fun a b ha hs => ?_) h0 hX
    · revert hs
      show s_X12_condition_37 _ _ = _ → _
      unfold s_X12_condition_37
      intro hs
      split at hs
      · cases hs
      · split at hs
        · cases hs
        · split at hs
          · exact Sum.inl.inj hs ▸ z_P_goes hp ha
          · split at hs
            · exact Sum.inl.inj hs ▸ z_P_piece hp hv ha
            · exact Sum.inl.inj hs ▸ z_P_goes hp (z_P_piece hp hv ha)
    · revert hs
      show s_X12_condition_37 _ _ = _ → _
      unfold s_X12_condition_37
      intro hs
      split at hs
      · exact Sum.inr.inj hs ▸ ha
      · split at hs
        · exact Sum.inr.inj hs ▸ ha
        · split at hs
          · cases hs
          · split at hs <;> cases hs
  have h1 : Pr (z_s T 99 24 (Int32.ofInt 0)) := hp _ _ _ _ h (by unfold z_a1; omega)
  unfold g_X12_condition F_X12_condition
  split
  · split
    · exact lp _ _ _ h (z_P_opens hp h1)
    · exact h1
  · split
    · exact lp _ _ _ h (z_P_opens hp (z_P_wrongs hp _ _ h1))
    · exact z_P_wrongs hp _ _ h1
theorem z_P_clause (hp : ∀ T a i v, Pr T → z_a1 a i → Pr (z_s T a i v)) (hv : ∀ T, Pr T → Pr (g_X12_value T)) {T : v_Sf} (b : Int32) (h : Pr T) : Pr (g_X12_clause b T) := by
  have p167 : ∀ x1 x2 X, Pr X → Pr (j_X12_clause_167 x1 x2 X) := fun x1 x2 X hX => hp _ _ _ _ (hp _ _ _ _ hX (by unfold z_a1; omega)) (by unfold z_a1; omega)
  have p143 : ∀ x1 x2 X, Pr X → Pr (j_X12_clause_143 x1 x2 X) := by
    intro x1 x2 X hX
    have h1 : Pr (z_s X 109 ((X 99 6).toInt.toNat) (X 99 7)) := hp _ _ _ _ hX (by unfold z_a1; omega)
    unfold j_X12_clause_143
    split
    · exact p167 _ _ _ h1
    · exact p167 _ _ _ (z_P_condition hp hv h1)
  have five : ∀ (X : v_Sf) (c v3 v7 : Int32) (i : Nat), Pr X → Pr (z_s (z_s (z_s (z_s (z_s X 107 i c) 108 i v7) 99 3 v3) 99 9 (Int32.ofInt 0)) 99 8 (Int32.ofInt 0)) := fun X c v3 v7 i hX => hp _ _ _ _ (hp _ _ _ _ (hp _ _ _ _ (hp _ _ _ _ (hp _ _ _ _ hX (by unfold z_a1; omega)) (by unfold z_a1; omega)) (by unfold z_a1; omega)) (by unfold z_a1; omega)) (by unfold z_a1; omega)
  have p64 : ∀ x1 x2 X, Pr X → Pr (j_X12_clause_64 x1 x2 X) := by
    intro x1 x2 X hX
    unfold j_X12_clause_64
    split
    · split
      · split
        · exact p143 _ _ _ (five _ _ _ _ _ hX)
        · split
          · exact p143 _ _ _ (five _ _ _ _ _ hX)
          · exact p143 _ _ _ (hv _ (five _ _ _ _ _ hX))
      · exact p143 _ _ _ (five _ _ _ _ _ hX)
    · exact hX
  have p37 : ∀ x1 x2 X, Pr X → Pr (j_X12_clause_37 x1 x2 X) := by
    intro x1 x2 X hX
    unfold j_X12_clause_37
    split
    · split
      · exact p64 _ _ _ hX
      · exact p64 _ _ _ (z_P_wrongs hp _ _ hX)
    · split
      · exact p64 _ _ _ hX
      · exact p64 _ _ _ (z_P_wrongs hp _ _ hX)
  have p25 : ∀ x1 x2 X, Pr X → Pr (j_X12_clause_25 x1 x2 X) := fun x1 x2 X hX => p64 _ _ _ (z_P_wrongs hp _ _ hX)
  unfold g_X12_clause F_X12_clause
  split
  · split
    · exact p37 _ _ _ h
    · exact p25 _ _ _ h
  · split
    · exact p37 _ _ _ h
    · exact p25 _ _ _ h
end FRA
/-- what a clause leaves alone -/
theorem z_clause_fr (b : Int32) (T : v_Sf) : ∀ a j, ¬ (a = 99 ∧ (j = 3 ∨ j = 5 ∨ j = 6 ∨ j = 7 ∨ j = 8 ∨ j = 9 ∨ j = 24 ∨ j = 25)) → ¬ (107 ≤ a ∧ a ≤ 113) → g_X12_clause b T a j = T a j := by
  have hp : ∀ (X : v_Sf) a i v, (∀ a j, ¬ (a = 99 ∧ (j = 3 ∨ j = 5 ∨ j = 6 ∨ j = 7 ∨ j = 8 ∨ j = 9 ∨ j = 24 ∨ j = 25)) → ¬ (107 ≤ a ∧ a ≤ 113) → X a j = T a j) → z_a1 a i → (∀ a' j, ¬ (a' = 99 ∧ (j = 3 ∨ j = 5 ∨ j = 6 ∨ j = 7 ∨ j = 8 ∨ j = 9 ∨ j = 24 ∨ j = 25)) → ¬ (107 ≤ a' ∧ a' ≤ 113) → z_s X a i v a' j = T a' j) := by
    intro X a i v hX q a' j q1 q2
    rw [z_sn (by unfold z_a1 at q; omega)]
    exact hX a' j q1 q2
  refine z_P_clause (Pr := fun X => ∀ a j, ¬ (a = 99 ∧ (j = 3 ∨ j = 5 ∨ j = 6 ∨ j = 7 ∨ j = 8 ∨ j = 9 ∨ j = 24 ∨ j = 25)) → ¬ (107 ≤ a ∧ a ≤ 113) → X a j = T a j) hp (fun X hX => z_P_value hp (fun Y v hY a' j q1 q2 => ?_) hX) b (fun _ _ _ _ => rfl)
  rw [z_sn (by omega)]
  exact hY a' j q1 q2
/-- isBehind is false behind each call -/
theorem z_k25_value {T : v_Sf} (h : T 99 25 = 0) : g_X12_value T 99 25 = 0 := by
  have hp : ∀ (X : v_Sf) a i v, X 99 25 = 0 → z_a1 a i → z_s X a i v 99 25 = 0 := fun X a i v hX q => by
    rw [z_sn (by unfold z_a1 at q; omega)]
    exact hX
  have hp5 : ∀ (X : v_Sf) a i v, X 99 5 = 0 → z_a0 a i → z_s X a i v 99 5 = 0 := fun X a i v hX q => by
    rw [z_sn (by unfold z_a0 at q; omega)]
    exact hX
  have st : ∀ X : v_Sf, X 99 25 = 0 → X 99 5 = 0 → (g_X12_stays X 99 25 = 0 ∨ (¬ f_X12_stays X = 0 ∧ g_X12_stays X 99 5 = 0)) := by
    intro X hX h5
    have s1 := z_P_sums (Pr := fun X => X 99 25 = 0) (z_a01 hp) (Int32.ofInt 1) hX
    have s5 := z_P_sums (Pr := fun X => X 99 5 = 0) hp5 (Int32.ofInt 1) h5
    unfold g_X12_stays f_X12_stays
    by_cases g1 : ¬ f_X12_isTimes (f_X12_here X) = 0
    · left
      rw [if_pos g1]
      exact z_P_puts (Pr := fun X => X 99 25 = 0) hp _ (z_P_sums (Pr := fun X => X 99 25 = 0) (z_a01 hp) _ hX)
    · rw [if_neg g1, if_neg g1]
      by_cases g2 : f_X12_isPlus (f_X12_here X) = 0
      · rw [if_pos g2, if_pos g2]
        by_cases g3 : f_X12_here X = Int32.ofInt 93
        · rw [if_pos g3, if_pos g3]
          by_cases g4 : f_X12_top (g_X12_sums (Int32.ofInt 1) X) = Int32.ofInt 91
          · right
            rw [if_pos g4, if_pos g4]
            refine ⟨by decide, ?_⟩
            rw [z_sn (by omega), z_sn (by omega), z_sn (by omega), z_sn (by omega)]
            exact s5
          · left
            rw [if_neg g4]
            exact z_P_wrongs (Pr := fun X => X 99 25 = 0) hp _ _ s1
        · left
          rw [if_neg g3]
          exact s1
      · left
        rw [if_neg g2]
        exact z_P_puts (Pr := fun X => X 99 25 = 0) hp _ (z_P_sums (Pr := fun X => X 99 25 = 0) (z_a01 hp) _ hX)
  unfold g_X12_value F_X12_value
  refine z_lim_inv (fun p : Int32 × v_Sf => p.2 99 25 = 0 ∨ (¬ p.1 = 0 ∧ p.2 99 5 = 0)) (fun X : v_Sf => X 99 25 = 0) (fun a a' ha hs => ?_) (fun a b ha hs => ?_) h (Or.inl (show z_s T 99 25 (Int32.ofInt 0) 99 25 = 0 from z_ss))
  · have go : ∀ X : v_Sf, X 99 25 = 0 → (if (f_X12_isGood X) = 0 then (Sum.inl ((Int32.ofInt 0), X)) else (if (f_X12_stays X) = 0 then (Sum.inl ((Int32.ofInt 0), (g_X12_stays X))) else (Sum.inl ((Int32.ofInt 1), (g_X12_stays X)))) : (Int32 × v_Sf) ⊕ v_Sf) = Sum.inl a' → a'.2 99 25 = 0 ∨ (¬ a'.1 = 0 ∧ a'.2 99 5 = 0) := by
      intro X hX hs
      split at hs
      · rw [← Sum.inl.inj hs]
        exact Or.inl hX
      · rename_i g
        have h5 : X 99 5 = 0 := Classical.byContradiction (fun q => g (z_bad q))
        split at hs
        · rename_i g2
          rw [← Sum.inl.inj hs]
          exact Or.inl ((st X hX h5).resolve_right (fun q => q.1 g2))
        · rw [← Sum.inl.inj hs]
          rcases st X hX h5 with q | q
          · exact Or.inl q
          · exact Or.inr ⟨by show ¬ Int32.ofInt 1 = 0; decide, q.2⟩
    revert hs
    show s_X12_value_7 _ _ = _ → _
    unfold s_X12_value_7
    intro hs
    split at hs
    · split at hs
      · cases hs
      · split at hs <;> cases hs
    · split at hs
      · cases hs
      · split at hs
        · exact go _ z_ss hs
        · exact go _ z_ss hs
  · revert hs
    show s_X12_value_7 _ _ = _ → _
    unfold s_X12_value_7
    intro hs
    split at hs
    · rename_i g
      have h25 : a.2 99 25 = 0 := ha.resolve_right (fun q => q.1 g)
      split at hs
      · exact Sum.inr.inj hs ▸ h25
      · split at hs
        · exact Sum.inr.inj hs ▸ h25
        · exact Sum.inr.inj hs ▸ z_P_wrongs (Pr := fun X => X 99 25 = 0) hp _ _ h25
    · split at hs
      · rename_i g
        have h25 : a.2 99 25 = 0 := ha.resolve_right (fun q => z_good1 q.2 g)
        exact Sum.inr.inj hs ▸ h25
      · split at hs
        · split at hs
          · cases hs
          · split at hs <;> cases hs
        · split at hs
          · cases hs
          · split at hs <;> cases hs
theorem z_k25_clause {T : v_Sf} (b : Int32) (h : T 99 25 = 0) : g_X12_clause b T 99 25 = 0 := by
  have hp : ∀ (X : v_Sf) a i v, X 99 25 = 0 → z_a1 a i → z_s X a i v 99 25 = 0 := fun X a i v hX q => by
    rw [z_sn (by unfold z_a1 at q; omega)]
    exact hX
  exact z_P_clause (Pr := fun X => X 99 25 = 0) hp (fun X hX => z_k25_value hX) b h
