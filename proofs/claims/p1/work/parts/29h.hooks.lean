noncomputable def q_hkM : q_Hk := fun d' x as A k => bif Nat.beq d' 58 then (bif Nat.beq x 2 then some (q_hkE q_as1 2 q_wA1 q_EA1 173 q_A1 q_EQ1 q_Q1 as A k || q_hkE q_as2 2 q_wA2 q_EA2 173 q_A2 q_EQ2 q_Q2 as A k) else bif Nat.beq x 104 then some (q_hkE q_as3 1 q_wA3 q_EA3 173 q_A3 q_EQ3 q_Q3 as A k || q_hkE q_as4 1 q_wA4 q_EA4 173 q_A4 q_EQ4 q_Q4 as A k) else none) else none
theorem q_op0 {E : q_S} (h : E.all (fun e => Nat.beq e.2.2.1 0) = true) : ∀ (k : Nat) (e : q_E), E[k]? = some e → e.2.2.1 = 0 := fun k e hk => q_beq (List.all_eq_true.mp h e (List.mem_of_getElem? hk))
theorem q_hkM_ok (T : q_T) (xs : Nat → Int32) : q_HkOk T 6 q_scr xs q_hkM := by
  intro d' x as A k h M' ρ ac σ hM' ra r3
  unfold q_hkM at h
  cases h1 : Nat.beq d' 58 with
  | false => rw [h1] at h; cases h
  | true =>
    rw [h1] at h
    have e1 := q_beq h1
    subst e1
    dsimp only [cond_true] at h
    cases h2 : Nat.beq x 2 with
    | true =>
      rw [h2] at h
      have e2 := q_beq h2
      subst e2
      have e3 : M' = q_MC := Option.some.inj (hM'.symm.trans rfl)
      subst e3
      have h : (q_hkE q_as1 2 q_wA1 q_EA1 173 q_A1 q_EQ1 q_Q1 as A k || q_hkE q_as2 2 q_wA2 q_EA2 173 q_A2 q_EQ2 q_Q2 as A k) = true := Option.some.inj h
      rw [Bool.or_eq_true] at h
      rcases h with h | h
      · exact q_hook (hk := q_hk0) (fun _ _ _ _ _ => rfl) ⟨_, rfl, by decide, by decide⟩ (q_op0 (by decide)) q_c11 q_c21 h ra r3
      · exact q_hook (hk := q_hk0) (fun _ _ _ _ _ => rfl) ⟨_, rfl, by decide, by decide⟩ (q_op0 (by decide)) q_c12 q_c22 h ra r3
    | false =>
      rw [h2] at h
      dsimp only [cond_false] at h
      cases h3 : Nat.beq x 104 with
      | true =>
        rw [h3] at h
        have e2 := q_beq h3
        subst e2
        have e3 : M' = q_MR := Option.some.inj (hM'.symm.trans rfl)
        subst e3
        have h : (q_hkE q_as3 1 q_wA3 q_EA3 173 q_A3 q_EQ3 q_Q3 as A k || q_hkE q_as4 1 q_wA4 q_EA4 173 q_A4 q_EQ4 q_Q4 as A k) = true := Option.some.inj h
        rw [Bool.or_eq_true] at h
        rcases h with h | h
        · exact q_hook (hk := q_hk0) (fun _ _ _ _ _ => rfl) ⟨_, rfl, by decide, by decide⟩ (q_op0 (by decide)) q_c13 q_c23 h ra r3
        · exact q_hook (hk := q_hk0) (fun _ _ _ _ _ => rfl) ⟨_, rfl, by decide, by decide⟩ (q_op0 (by decide)) q_c14 q_c24 h ra r3
      | false => rw [h3] at h; cases h
set_option maxRecDepth 1000000 in
theorem qr_m : q_go1 q_hkM (-2147483648, 2147483647) (-2147483648, 2147483647) (11, 11) = true := by decide +kernel
set_option maxRecDepth 1000000 in
theorem qr_t : q_go1 q_hkM (-2147483648, 2147483647) (-2147483648, 2147483647) (12, 12) = true := by decide +kernel
