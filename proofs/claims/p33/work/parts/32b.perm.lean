/-! the order of the locals doesn't matter -/
def g_nd (lc : g_Lc) : Prop := (lc.map (fun q => q.1)).Nodup
def g_eqv (a b : g_Lc) : Prop := g_nd a ∧ g_nd b ∧ ∀ i, g_get a i = g_get b i
theorem g_get_cons (q : Nat × Value) (t : g_Lc) (i : Nat) : g_get (q :: t) i = if q.1 = i then some q.2 else g_get t i := by
  unfold g_get
  by_cases hq : q.1 = i
  · simp [hq]
  · simp [hq]
theorem g_get_none {i : Nat} : ∀ {lc : g_Lc}, i ∉ lc.map (fun q => q.1) → g_get lc i = none
  | [], _ => rfl
  | q :: t, h => by
    rw [g_get_cons]
    simp only [List.map_cons, List.mem_cons, not_or] at h
    rw [if_neg (fun e => h.1 e.symm)]
    exact g_get_none h.2
theorem g_get_fil {i j : Nat} (hj : j ≠ i) : ∀ {lc : g_Lc}, g_nd lc → g_get (lc.filter (fun q => !(q.1 == i) && !(q.1 + 1 == i && q.2.category == 2))) j = (g_get lc j).filter (fun w => !(decide (j + 1 = i) && w.category == 2))
  | [], _ => rfl
  | q :: t, h => by
    have h1 : q.1 ∉ t.map (fun q => q.1) := (List.nodup_cons.mp h).1
    have h2 : g_nd t := (List.nodup_cons.mp h).2
    have ih := g_get_fil hj h2
    rw [g_get_cons, List.filter_cons]
    by_cases hq : q.1 = j
    · rw [if_pos hq]
      have e1 : (q.1 == i) = false := by simpa [hq] using hj
      by_cases hc : (decide (j + 1 = i) && q.2.category == 2) = true
      · have e2 : (!(q.1 == i) && !(q.1 + 1 == i && q.2.category == 2)) = false := by
          rw [e1, hq]
          have e3 : (j + 1 == i) = decide (j + 1 = i) := by by_cases h9 : j + 1 = i <;> simp [h9]
          rw [e3, hc]
          rfl
        rw [e2, if_neg (by simp), ih]
        have e5 : g_get t j = none := by rw [← hq]; exact g_get_none h1
        rw [e5]
        simp [Option.filter, hc]
      · have hc : (decide (j + 1 = i) && q.2.category == 2) = false := by simpa using hc
        have e2 : (!(q.1 == i) && !(q.1 + 1 == i && q.2.category == 2)) = true := by
          rw [e1, hq]
          have e3 : (j + 1 == i) = decide (j + 1 = i) := by by_cases h9 : j + 1 = i <;> simp [h9]
          rw [e3, hc]
          rfl
        rw [e2, if_pos rfl, g_get_cons, if_pos hq]
        simp [Option.filter, hc]
    · rw [if_neg hq]
      split
      · rw [g_get_cons, if_neg hq]
        exact ih
      · exact ih
theorem g_get_set {lc : g_Lc} (h : g_nd lc) (i j : Nat) (v : Value) : g_get (g_set lc i v) j = if i = j then some v else (g_get lc j).filter (fun w => !(decide (j + 1 = i) && w.category == 2)) := by
  unfold g_set
  rw [g_get_cons]
  by_cases hj : i = j
  · rw [if_pos hj, if_pos hj]
  · rw [if_neg hj, if_neg hj]
    exact g_get_fil (fun e => hj e.symm) h
theorem g_nd_set {lc : g_Lc} (h : g_nd lc) (i : Nat) (v : Value) : g_nd (g_set lc i v) := by
  unfold g_nd g_set
  rw [List.map_cons, List.nodup_cons]
  constructor
  · intro hm
    obtain ⟨q, hq, e⟩ := List.mem_map.mp hm
    have := (List.mem_filter.mp hq).2
    simp only [Bool.and_eq_true, Bool.not_eq_true', beq_eq_false_iff_ne] at this
    exact this.1 e
  · exact List.Nodup.sublist (List.Sublist.map _ List.filter_sublist) h
theorem g_eqv_set {a b : g_Lc} (h : g_eqv a b) (i : Nat) (v : Value) : g_eqv (g_set a i v) (g_set b i v) := ⟨g_nd_set h.1 i v, g_nd_set h.2.1 i v, fun j => by rw [g_get_set h.1, g_get_set h.2.1, h.2.2 j]⟩
/-- both none, or both something alike -/
def g_rel (a b : Option (g_Lc × List Value)) : Prop := match a, b with
  | none, none => True
  | some p, some q => g_eqv p.1 q.1 ∧ p.2 = q.2
  | _, _ => False
theorem g_lcl_eqv {a b : g_Lc} (h : g_eqv a b) (nL : Nat) (ins : Instr) (st : List Value) : g_rel (g_lcl nL ins a st) (g_lcl nL ins b st) := by
  have l1 : ∀ i, g_rel (g_ldi a i st) (g_ldi b i st) := by
    intro i
    unfold g_ldi
    rw [h.2.2 i]
    split <;> first | exact ⟨h, rfl⟩ | trivial
  have l2 : ∀ i, g_rel (g_lda a i st) (g_lda b i st) := by
    intro i
    unfold g_lda
    rw [h.2.2 i]
    split <;> first | exact ⟨h, rfl⟩ | trivial
  have l3 : ∀ i, g_rel (g_ldl a i st) (g_ldl b i st) := by
    intro i
    unfold g_ldl
    rw [h.2.2 i]
    split <;> first | exact ⟨h, rfl⟩ | trivial
  have l4 : ∀ i, g_rel (g_sti nL a i st) (g_sti nL b i st) := by
    intro i
    unfold g_sti
    split
    · split
      · exact ⟨g_eqv_set h _ _, rfl⟩
      · trivial
    · trivial
  have l5 : ∀ i, g_rel (g_sta nL a i st) (g_sta nL b i st) := by
    intro i
    unfold g_sta
    split
    · split
      · exact ⟨g_eqv_set h _ _, rfl⟩
      · trivial
    · split
      · exact ⟨g_eqv_set h _ _, rfl⟩
      · trivial
    · trivial
  have l6 : ∀ i n, g_rel (g_inc nL a i n st) (g_inc nL b i n st) := by
    intro i n
    unfold g_inc
    rw [h.2.2 i]
    split
    · split
      · exact ⟨g_eqv_set h _ _, rfl⟩
      · trivial
    · trivial
  cases ins <;> first | exact l1 _ | exact l2 _ | exact l3 _ | exact l4 _ | exact l5 _ | exact l6 _ _ | trivial
theorem g_run_lc (L : Nat) (xs : Nat → Int32) : ∀ (n d : Nat) (M : g_M) (pc : Nat) (a b : g_Lc) (st : List Value) (σ : List g_Ce), g_eqv a b → g_run g_mt L xs n d M pc a st σ = g_run g_mt L xs n d M pc b st σ := by
  intro n
  induction n with
  | zero => intro d M pc a b st σ _; rfl
  | succ n ih =>
    intro d M pc a b st σ h
    have hmac : g_mac d M pc a st = g_mac d M pc b st := by unfold g_mac; rw [h.2.2 2]
    have hst : (g_step d M.2.2.2.1 L xs · pc a st σ) = fun en => match g_stk en.1.1 en.2.2.2 st with
      | some st' => some (pc + en.1.2, a, st', σ)
      | none => match g_lcl M.2.2.2.1 en.1.1 a st with
        | some q => some (pc + en.1.2, q.1, q.2, σ)
        | none => match g_jmp en.1.1 pc en.2.1 st with
          | some q => some (q.1, a, q.2, σ)
          | none => match g_hp d L xs en.1.1 en.2.1 en.2.2.1 st σ with
            | some q => some (pc + en.1.2, a, q.1, q.2)
            | none => none := rfl
    rw [g_run, g_run, hmac]
    cases hen : M.2.2.2.2.2 pc with
    | none =>
      dsimp only
      split
      · exact ih _ _ _ _ _ _ _ h
      · rfl
    | some en =>
      dsimp only
      have hr := g_lcl_eqv h M.2.2.2.1 en.1.1 st
      cases h1 : g_stk en.1.1 en.2.2.2 st with
      | some st' =>
        rw [g_st_stk h1, g_st_stk h1]
        exact ih _ _ _ _ _ _ _ h
      | none =>
        cases h2 : g_lcl M.2.2.2.1 en.1.1 a st with
        | some p =>
          rw [h2] at hr
          cases h3 : g_lcl M.2.2.2.1 en.1.1 b st with
          | none => rw [h3] at hr; exact hr.elim
          | some q =>
            rw [h3] at hr
            rw [g_st_lcl h1 h2, g_st_lcl h1 h3]
            dsimp only
            rw [hr.2]
            exact ih _ _ _ _ _ _ _ hr.1
        | none =>
          rw [h2] at hr
          cases h3 : g_lcl M.2.2.2.1 en.1.1 b st with
          | some q => rw [h3] at hr; exact hr.elim
          | none =>
            cases h4 : g_jmp en.1.1 pc en.2.1 st with
            | some q =>
              rw [g_st_jmp h1 h2 h4, g_st_jmp h1 h3 h4]
              exact ih _ _ _ _ _ _ _ h
            | none =>
              cases h5 : g_hp d L xs en.1.1 en.2.1 en.2.2.1 st σ with
              | some q =>
                rw [g_st_hp h1 h2 h4 h5, g_st_hp h1 h3 h4 h5]
                exact ih _ _ _ _ _ _ _ h
              | none =>
                have e1 : g_step d M.2.2.2.1 L xs en pc a st σ = none := by simp only [g_step, h1, h2, h4, h5]
                have e2 : g_step d M.2.2.2.1 L xs en pc b st σ = none := by simp only [g_step, h1, h3, h4, h5]
                rw [e1, e2]
                dsimp only
                cases g_rt en.1.1 M.2.2.2.2.1 st with
                | some r => rfl
                | none =>
                  dsimp only
                  cases g_ki en.1.1 with
                  | none => rfl
                  | some k =>
                    dsimp only
                    cases d with
                    | zero => rfl
                    | succ d' =>
                      dsimp only
                      cases (en.2.1 == 99999) with
                      | true =>
                        dsimp only [cond_true]
                        split
                        · exact ih _ _ _ _ _ _ _ h
                        · rfl
                      | false =>
                        dsimp only [cond_false]
                        split
                        · rfl
                        · split
                          · rfl
                          · simp only [cond_eq_ite]
                            split
                            · split
                              · rfl
                              · exact ih _ _ _ _ _ _ _ h
                            · rfl
theorem w_lc {L : Nat} {xs : Nat → Int32} {d : Nat} {M : g_M} {pc : Nat} {a b : g_Lc} {sc : List Value} {S : v_Sf} {R : v_Rf} {Q : Option Value → v_Sf → v_Rf → Prop} (h1 : g_nd a) (h2 : g_nd b) (h3 : ∀ i, g_get a i = g_get b i) (k : w_T L xs d M pc b sc S R Q) : w_T L xs d M pc a sc S R Q := by
  obtain ⟨n, r, S', R', k1, k2⟩ := k
  exact ⟨n, r, S', R', fun e => by rw [g_run_lc L xs _ _ _ _ a b _ _ ⟨h1, h2, h3⟩]; exact k1 e, k2⟩
