/-! the start: both objects are made -/
def g_arl (ins : Instr) (st : List Value) : Bool := match ins, st with
  | .arraylength, .ref 0 :: _ => true
  | _, _ => false
noncomputable def g_sC (d nL : Nat) (en : g_En) (pc : Nat) (ls : g_Lc) (st : List Value) (σ : List g_Ce) : Option (Nat × g_Lc × List Value × List g_Ce) := bif g_arl en.1.1 st then none else g_step d nL 0 (fun _ => 0) en pc ls st σ
abbrev g_Rc : Type := Nat → g_M → Nat → g_Lc → List Value → List g_Ce → Option (Option Value × List g_Ce)
/-- the pure machine where the script isn't asked -/
noncomputable def g_rC (fuel : Nat) : g_Rc := Nat.rec (motive := fun _ => g_Rc) (fun _ _ _ _ _ _ => none) (fun _ ih d M pc ls st σ => match M.2.2.2.2.2 pc with
  | none => none
  | some en => match g_sC d M.2.2.2.1 en pc ls st σ with
    | some q => ih d M q.1 q.2.1 q.2.2.1 q.2.2.2
    | none => bif g_arl en.1.1 st then none else match g_rt en.1.1 M.2.2.2.2.1 st with
      | some r => some (r, σ)
      | none => match g_ki en.1.1 with
        | none => none
        | some k => match d with
          | 0 => none
          | Nat.succ d' => bif en.2.1 == 99999 then (match g_oi k st with
            | some rest => ih (d' + 1) M (pc + 3) ls rest σ
            | none => none) else
            match g_mt en.2.1 with
            | none => none
            | some M' => match g_cl k en.2.2.1 M'.1 st σ with
              | none => none
              | some q => bif decide (g_cat q.2 ≤ 8) && decide ((lg_sl q.1).length ≤ M'.2.2.2.1) then
                  (match ih d' M' 0 (lv_args 0 q.1) [] σ with
                  | none => none
                  | some w => ih (d' + 1) M (pc + 3) ls (w.1.toList ++ q.2) w.2) else none) fuel
theorem g_ia_0 {st : List Value} {σ : List g_Ce} {q : List Value × List g_Ce} (h : g_ia 0 (fun _ => 0) st σ = some q) (L : Nat) (xs : Nat → Int32) : g_ia L xs st σ = some q := by
  have ho : ∀ i, g_out i 0 = true := fun i => by unfold g_out; simp
  match st, h with
  | .int i :: .ref 0 :: r, h =>
    have h : (bif g_out i 0 then none else some (Value.int 0 :: r, σ)) = some q := h
    rw [ho] at h
    cases h
  | .int i :: .ref (a + 1) :: r, h => exact h
theorem g_al_0 {st : List Value} {σ : List g_Ce} {q : List Value × List g_Ce} (ha : g_arl .arraylength st = false) (h : g_al 0 st σ = some q) (L : Nat) : g_al L st σ = some q := by
  match st, ha, h with
  | .ref 0 :: r, ha, _ => cases ha
  | .ref (a + 1) :: r, _, h => exact h
theorem g_sC_some {d nL : Nat} {en : g_En} {pc : Nat} {ls : g_Lc} {st : List Value} {σ : List g_Ce} {q : Nat × g_Lc × List Value × List g_Ce} (h : g_sC d nL en pc ls st σ = some q) (L : Nat) (xs : Nat → Int32) : g_step d nL L xs en pc ls st σ = some q := by
  unfold g_sC at h
  cases ha : g_arl en.1.1 st with
  | true => rw [ha] at h; cases h
  | false =>
    rw [ha] at h
    have h : g_step d nL 0 (fun _ => 0) en pc ls st σ = some q := h
    have key : ∀ q, g_hp d 0 (fun _ => 0) en.1.1 en.2.1 en.2.2.1 st σ = some q → g_hp d L xs en.1.1 en.2.1 en.2.2.1 st σ = some q := by
      intro q hq
      generalize en.1.1 = ins at hq ha
      cases ins <;> first | exact hq | skip
      · exact g_al_0 ha hq L
      · exact g_ia_0 hq L xs
    unfold g_step at h
    split at h
    · rename_i st' h1
      cases h
      exact g_st_stk h1
    · rename_i h1
      split at h
      · rename_i q' h2
        cases h
        exact g_st_lcl h1 h2
      · rename_i h2
        split at h
        · rename_i q' h3
          cases h
          exact g_st_jmp h1 h2 h3
        · rename_i h3
          split at h
          · rename_i q' h4
            cases h
            exact g_st_hp h1 h2 h3 (key _ h4)
          · cases h
theorem g_sC_none {d nL : Nat} {en : g_En} {pc : Nat} {ls : g_Lc} {st : List Value} {σ : List g_Ce} {k : Nat} (ha : g_arl en.1.1 st = false) (h : g_sC d nL en pc ls st σ = none) (hk : g_ki en.1.1 = some k) (L : Nat) (xs : Nat → Int32) : g_step d nL L xs en pc ls st σ = none := by
  unfold g_sC at h
  rw [ha] at h
  have h : g_step d nL 0 (fun _ => 0) en pc ls st σ = none := h
  obtain ⟨⟨ins, len⟩, x, y, z⟩ := en
  unfold g_ki at hk
  dsimp only at hk
  split at hk <;> first | exact h | cases hk
theorem g_rC_s (n d : Nat) (M : g_M) (pc : Nat) (ls : g_Lc) (st : List Value) (σ : List g_Ce) : g_rC (n + 1) d M pc ls st σ = (match M.2.2.2.2.2 pc with
      | none => none
      | some en => match g_sC d M.2.2.2.1 en pc ls st σ with
        | some q => g_rC n d M q.1 q.2.1 q.2.2.1 q.2.2.2
        | none => bif g_arl en.1.1 st then none else match g_rt en.1.1 M.2.2.2.2.1 st with
          | some r => some (r, σ)
          | none => match g_ki en.1.1 with
            | none => none
            | some k => match d with
              | 0 => none
              | Nat.succ d' => bif en.2.1 == 99999 then (match g_oi k st with
                | some rest => g_rC n (d' + 1) M (pc + 3) ls rest σ
                | none => none) else
                match g_mt en.2.1 with
                | none => none
                | some M' => match g_cl k en.2.2.1 M'.1 st σ with
                  | none => none
                  | some q => bif decide (g_cat q.2 ≤ 8) && decide ((lg_sl q.1).length ≤ M'.2.2.2.1) then
                      (match g_rC n d' M' 0 (lv_args 0 q.1) [] σ with
                      | none => none
                      | some w => g_rC n (d' + 1) M (pc + 3) ls (w.1.toList ++ q.2) w.2) else none) := rfl
theorem g_rC_ok (L : Nat) (xs : Nat → Int32) : ∀ (n d : Nat) (M : g_M) (pc : Nat) (ls : g_Lc) (st : List Value) (σ : List g_Ce) (r : Option Value × List g_Ce), g_rC n d M pc ls st σ = some r → g_run g_mt L xs n d M pc ls st σ = some r := by
  intro n
  induction n with
  | zero => intro d M pc ls st σ r h; cases h
  | succ n ih =>
    intro d M pc ls st σ r h
    rw [g_rC_s] at h
    split at h
    · cases h
    · rename_i en hen
      split at h
      · rename_i q hs
        rw [g_run_step hen (g_sC_some hs L xs)]
        exact ih _ _ _ _ _ _ _ h
      · rename_i hs
        cases ha : g_arl en.1.1 st with
        | true => rw [ha] at h; cases h
        | false =>
          rw [ha] at h
          dsimp only [cond_false] at h
          split at h
          · rename_i r0 hrt
            cases h
            exact g_run_ret hen (g_step_ret hrt) hrt
          · rename_i hrt
            split at h
            · cases h
            · rename_i k hk
              cases d with
              | zero => cases h
              | succ e =>
                have hs2 := g_sC_none ha hs hk L xs
                obtain ⟨⟨ins, len⟩, x, y, z⟩ := en
                dsimp only at h hrt hk
                cases hx : (x == 99999) with
                | true =>
                  rw [hx] at h
                  dsimp only [cond_true] at h
                  split at h
                  · rename_i ho
                    rw [g_run_oi hen hs2 hrt hk hx ho]
                    exact ih _ _ _ _ _ _ _ h
                  · cases h
                | false =>
                  rw [hx] at h
                  dsimp only [cond_false] at h
                  split at h
                  · cases h
                  · rename_i M' hM'
                    split at h
                    · cases h
                    · rename_i q hq
                      cases hc : (decide (g_cat q.2 ≤ 8) && decide ((lg_sl q.1).length ≤ M'.2.2.2.1)) with
                      | false => rw [hc] at h; cases h
                      | true =>
                        rw [hc] at h
                        dsimp only [cond_true] at h
                        rw [Bool.and_eq_true, decide_eq_true_eq, decide_eq_true_eq] at hc
                        split at h
                        · cases h
                        · rename_i w hw
                          rw [g_run_call hen hs2 hrt hk hx hM' hq hc.1 hc.2 (ih _ _ _ _ _ _ _ hw)]
                          exact ih _ _ _ _ _ _ _ h
/-- more fuel does no harm -/
theorem g_run_n (L : Nat) (xs : Nat → Int32) : ∀ (n d : Nat) (M : g_M) (pc : Nat) (ls : g_Lc) (st : List Value) (σ : List g_Ce) (r : Option Value × List g_Ce), g_run g_mt L xs n d M pc ls st σ = some r → g_run g_mt L xs (n + 1) d M pc ls st σ = some r := by
  intro n
  induction n with
  | zero => intro d M pc ls st σ r h; simp [g_run] at h
  | succ n ih =>
    intro d M pc ls st σ r h
    rw [g_run] at h
    split at h
    · rename_i hn
      split at h
      · rename_i hm
        rw [g_run]
        simp only [hn, hm]
        exact ih _ _ _ _ _ _ _ h
      · cases h
    · rename_i en hen
      split at h
      · rename_i q hs
        rw [g_run_step hen hs]
        exact ih _ _ _ _ _ _ _ h
      · rename_i hs
        split at h
        · rename_i r0 hrt
          cases h
          exact g_run_ret hen hs hrt
        · rename_i hrt
          split at h
          · cases h
          · rename_i k hk
            cases d with
            | zero => cases h
            | succ e =>
              obtain ⟨⟨ins, len⟩, x, y, z⟩ := en
              dsimp only at h hrt hk
              cases hx : (x == 99999) with
              | true =>
                rw [hx] at h
                dsimp only [cond_true] at h
                split at h
                · rename_i ho
                  rw [g_run_oi hen hs hrt hk hx ho]
                  exact ih _ _ _ _ _ _ _ h
                · cases h
              | false =>
                rw [hx] at h
                dsimp only [cond_false] at h
                split at h
                · cases h
                · rename_i M' hM'
                  split at h
                  · cases h
                  · rename_i q hq
                    cases hc : (decide (g_cat q.2 ≤ 8) && decide ((lg_sl q.1).length ≤ M'.2.2.2.1)) with
                    | false => rw [hc] at h; cases h
                    | true =>
                      rw [hc] at h
                      dsimp only [cond_true] at h
                      rw [Bool.and_eq_true, decide_eq_true_eq, decide_eq_true_eq] at hc
                      split at h
                      · cases h
                      · rename_i w hw
                        rw [g_run_call hen hs hrt hk hx hM' hq hc.1 hc.2 (ih _ _ _ _ _ _ _ hw)]
                        exact ih _ _ _ _ _ _ _ h
theorem g_run_m (L : Nat) (xs : Nat → Int32) {n : Nat} (k : Nat) {d : Nat} {M : g_M} {pc : Nat} {ls : g_Lc} {st : List Value} {σ : List g_Ce} {r : Option Value × List g_Ce} (h : g_run g_mt L xs n d M pc ls st σ = some r) : g_run g_mt L xs (n + k) d M pc ls st σ = some r := by
  induction k with
  | zero => exact h
  | succ k ih => exact g_run_n L xs (n + k) d M pc ls st σ r ih
noncomputable abbrev m_X11_init : g_M := (g_cn 11, yX11_init, cX11_init, 5, none, g_look2 ttX11_init)
set_option maxRecDepth 20000 in
theorem mt_X11_init : g_mt 110 = some m_X11_init := rfl
noncomputable abbrev m_X12_init : g_M := (g_cn 12, yX12_init, cX12_init, 2, none, g_look2 ttX12_init)
set_option maxRecDepth 20000 in
theorem mt_X12_init : g_mt 159 = some m_X12_init := rfl
noncomputable def v_w1 : Option (Option Value × List g_Ce) := g_rC 3000 59 m_X11_init 0 [(0, .ref 1)] [] [.inr (11, g_df 11)]
noncomputable def v_s1 : List g_Ce := match v_w1 with
  | some w => w.2
  | none => []
noncomputable def v_w2 : Option (Option Value × List g_Ce) := g_rC 3000 59 m_X12_init 0 [(0, .ref 100)] [] (v_s1 ++ [.inr (12, g_df 12)])
noncomputable def v_s0 : List g_Ce := match v_w2 with
  | some w => w.2
  | none => []
def v_isV (w : Option (Option Value × List g_Ce)) : Bool := match w with
  | some (none, _) => true
  | _ => false
set_option maxRecDepth 100000 in
theorem v_w1_ok : (v_isV v_w1 && Nat.beq v_s1.length 99) = true := by decide +kernel
set_option maxRecDepth 100000 in
theorem v_w2_ok : v_isV v_w2 = true := by decide +kernel
noncomputable def v_S0 : v_Sf := fun a => match v_s0[a]? with
  | some (.inl (_, _, .inl f)) => f
  | some (.inr (_, fs)) => fun j => (match fs[j]? with
    | some (.int v) => v
    | _ => 0)
  | _ => fun _ => 0
noncomputable def v_R0 : v_Rf := fun a => match v_s0[a]? with
  | some (.inl (_, _, .inr f)) => f
  | some (.inr (_, fs)) => fun j => (match fs[j]? with
    | some (.ref r) => some r
    | _ => none)
  | _ => fun _ => none
def v_okf (t : Option v_Ft) (v : Option Value) : Bool := match t, v with
  | some (.inl b), some (.int x) => q_ile b.1 x.toInt && q_ile x.toInt b.2
  | some (.inr (.inl k)), some (.ref r) => Nat.beq r k
  | some (.inr (.inr l)), some (.ref r) => l.contains r
  | _, _ => false
def v_okc (t : v_Ct) (c : g_Ce) : Bool := match t, c with
  | .inl (tg, n, lo, hi), .inl (tg', n', .inl f) => (Nat.beq tg tg' && Nat.beq n n') && (List.range n).all (fun j => q_ile lo (f j).toInt && q_ile (f j).toInt hi)
  | .inr (.inl l), .inl (tg', n', .inr f) => (Nat.beq tg' 3 && Nat.beq l.length n') && (List.range l.length).all (fun j => decide (f j = l[j]?))
  | .inr (.inr (ci, ts)), .inr (ci', fs) => (Nat.beq ci ci' && Nat.beq ts.length fs.length) && (List.range ts.length).all (fun j => v_okf ts[j]? fs[j]?)
  | _, _ => false
noncomputable def v_okS (σ : List g_Ce) : Bool := Nat.beq σ.length v_N && (List.range v_N).all (fun a => match v_ty a, σ[a]? with
  | some t, some c => v_okc t c
  | _, _ => false)
set_option maxRecDepth 100000 in
theorem v_s0_ok : (v_okS v_s0 && (q_ieq (v_S0 99 16).toInt 0 && q_ieq (v_S0 99 17).toInt 0)) = true := by decide +kernel
theorem v_okS_cell {a : Nat} (ha : a < v_N) : ∃ t c, v_ty a = some t ∧ v_s0[a]? = some c ∧ v_okc t c = true := by
  have h := v_s0_ok
  rw [Bool.and_eq_true] at h
  have h1 := h.1
  unfold v_okS at h1
  rw [Bool.and_eq_true] at h1
  have h2 := List.all_eq_true.mp h1.2 a (List.mem_range.mpr ha)
  split at h2
  · rename_i t c ht hc
    exact ⟨t, c, ht, hc, h2⟩
  · cases h2
theorem v_s0_mk : v_s0 = v_mk v_ty v_S0 v_R0 := by
  have hlen : v_s0.length = v_N := by
    have h := v_s0_ok
    rw [Bool.and_eq_true] at h
    have h1 := h.1
    unfold v_okS at h1
    rw [Bool.and_eq_true] at h1
    exact Nat.eq_of_beq_eq_true h1.1
  apply List.ext_getElem?
  intro a
  rw [v_mk_get]
  by_cases ha : a < v_N
  · rw [if_pos ha]
    obtain ⟨t, c, ht, hc, hok⟩ := v_okS_cell ha
    rw [hc, ht]
    refine congrArg some ?_
    unfold v_okc at hok
    split at hok
    · rename_i tg n lo hi tg' n' f
      simp only [Bool.and_eq_true] at hok
      have e1 := Nat.eq_of_beq_eq_true hok.1.1
      have e2 := Nat.eq_of_beq_eq_true hok.1.2
      subst e1 e2
      have e : v_S0 a = f := by unfold v_S0; rw [hc]
      simp only [v_cell, e]
    · rename_i l tg' n' f
      simp only [Bool.and_eq_true] at hok
      have e1 := Nat.eq_of_beq_eq_true hok.1.1
      have e2 := Nat.eq_of_beq_eq_true hok.1.2
      subst e1 e2
      have e : v_R0 a = f := by unfold v_R0; rw [hc]
      simp only [v_cell, e]
    · rename_i ci ts ci' fs
      simp only [Bool.and_eq_true] at hok
      have e1 := Nat.eq_of_beq_eq_true hok.1.1
      have e2 := Nat.eq_of_beq_eq_true hok.1.2
      subst e1
      simp only [v_cell]
      refine congrArg (fun l => (Sum.inr (ci, l) : g_Ce)) ?_
      apply List.ext_getElem?
      intro j
      rw [List.getElem?_mapIdx]
      by_cases hj : j < ts.length
      · have hf := List.all_eq_true.mp hok.2 j (List.mem_range.mpr hj)
        have e3 : ts[j]? = some ts[j] := List.getElem?_eq_getElem hj
        have e4 : fs[j]? = some fs[j] := List.getElem?_eq_getElem (by omega)
        have eS : v_S0 a j = (match fs[j]? with
          | some (.int v) => v
          | _ => 0) := by unfold v_S0; rw [hc]
        have eR : v_R0 a j = (match fs[j]? with
          | some (.ref r) => some r
          | _ => none) := by unfold v_R0; rw [hc]
        rw [e3] at hf ⊢
        rw [e4] at hf eS eR ⊢
        simp only [Option.map_some]
        refine congrArg some ?_
        generalize fs[j] = v at hf eS eR
        generalize ts[j] = tt at hf
        unfold v_okf at hf
        unfold v_fv
        split at hf
        · rename_i b x h7 h8
          cases h7
          cases h8
          simp only [eS]
        · rename_i kk r h7 h8
          cases h7
          cases h8
          rw [Nat.eq_of_beq_eq_true hf]
        · rename_i l r h7 h8
          cases h7
          cases h8
          simp only [eR, va_rf]
        · cases hf
      · rw [List.getElem?_eq_none (by omega), List.getElem?_eq_none (by omega)]
        rfl
    · cases hok
  · rw [if_neg ha, List.getElem?_eq_none (by omega)]
theorem v_S0_Tb : v_Tb v_ty v_S0 v_R0 := by
  intro a t ht
  obtain ⟨t', c, ht', hc, hok⟩ := v_okS_cell (v_ty_lt a t ht)
  have : t = t' := Option.some.inj (ht.symm.trans ht')
  subst this
  unfold v_okc at hok
  split at hok
  · rename_i tg n lo hi tg' n' f
    simp only [Bool.and_eq_true] at hok
    have e : v_S0 a = f := by unfold v_S0; rw [hc]
    intro j hj
    have h := List.all_eq_true.mp hok.2 j (List.mem_range.mpr hj)
    rw [Bool.and_eq_true, q_ile_ok, q_ile_ok] at h
    rw [e]
    exact h
  · rename_i l tg' n' f
    simp only [Bool.and_eq_true] at hok
    have e : v_R0 a = f := by unfold v_R0; rw [hc]
    intro j r hj
    have h := List.all_eq_true.mp hok.2 j (List.mem_range.mpr (List.getElem?_eq_some_iff.mp hj).1)
    rw [decide_eq_true_eq] at h
    rw [e, h, hj]
  · rename_i ci ts ci' fs
    simp only [Bool.and_eq_true] at hok
    intro j ft hj
    have hjl := (List.getElem?_eq_some_iff.mp hj).1
    have hf := List.all_eq_true.mp hok.2 j (List.mem_range.mpr hjl)
    have eS : v_S0 a j = (match fs[j]? with
      | some (.int v) => v
      | _ => 0) := by unfold v_S0; rw [hc]
    have eR : v_R0 a j = (match fs[j]? with
      | some (.ref r) => some r
      | _ => none) := by unfold v_R0; rw [hc]
    rw [hj] at hf
    unfold v_okf at hf
    unfold v_TbF
    split at hf
    · rename_i b x h7 h8
      cases h7
      rw [h8] at eS
      rw [Bool.and_eq_true, q_ile_ok, q_ile_ok] at hf
      simp only [eS]
      exact hf
    · rename_i kk r h7 h8
      cases h7
      trivial
    · rename_i l r h7 h8
      cases h7
      rw [h8] at eR
      exact ⟨r, by simpa using hf, eR⟩
    · cases hf
  · cases hok
theorem v_S0_Op : v_Op v_S0 := by
  have h := v_s0_ok
  rw [Bool.and_eq_true, Bool.and_eq_true, q_ieq_ok, q_ieq_ok] at h
  exact ⟨fun k hk => by omega, fun k hk => by omega⟩
theorem v_mk_len (S : v_Sf) (R : v_Rf) : (v_mk v_ty S R).length = 173 := by simp [v_mk, v_N]
theorem v_mk_sl (S : v_Sf) (R : v_Rf) : g_sl (v_mk v_ty S R) = g_sl (v_mk v_ty (fun _ _ => 0) (fun _ _ => none)) := by
  unfold g_sl v_mk
  rw [List.map_map, List.map_map]
  refine congrArg List.sum ?_
  apply List.map_congr_left
  intro a _
  show g_sz (v_cell S R a (v_ty a)) = g_sz (v_cell (fun _ _ => 0) (fun _ _ => none) a (v_ty a))
  unfold v_cell
  split
  · rfl
  · rfl
  · simp [g_sz]
  · rfl
set_option maxRecDepth 100000 in
theorem v_mk_sl0 : Nat.ble (g_sl (v_mk v_ty (fun _ _ => 0) (fun _ _ => none))) 7302250 = true := by decide +kernel
