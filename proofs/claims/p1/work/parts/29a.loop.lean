/-! a loop over a counter k (symbol 7 of the pattern, 0 to 60), by its body's roads -/
noncomputable def q_rd (A : q_A) (p : Nat × Nat) : q_N := match q_get A.2.2 p.1 with
  | some (.inr (.inr (_, fs))) => (match q_nth fs p.2 with
    | some (.inl a) => a
    | _ => .inl 0)
  | some (.inl (_, _, u)) => q_at (.inl 0) u p.2
  | _ => .inl 0
noncomputable def q_lsc (θ : List q_N) (lsP ls : q_L) : Bool := q_all2b (fun p q => Nat.beq p.1 q.1 && q_cmpV θ p.2 q.2) lsP ls
theorem q_lsc_ok {ρ ρP : List Int} {θ : List q_N} (hθ : ∀ (k : Nat) (b : q_N), θ[k]? = some b → ∃ x, ρP[k]? = some x ∧ q_r ρ b x) : ∀ {lsP ls : q_L} {lc : g_Lc}, q_al2 (fun p q => (Nat.beq p.1 q.1 && q_cmpV θ p.2 q.2) = true) lsP ls → q_rl ρ ls lc → q_rl ρP lsP lc
  | [], [], [], _, _ => trivial
  | [], [], _ :: _, _, h => h.elim
  | [], _ :: _, _, h, _ => h.elim
  | _ :: _, [], _, h, _ => h.elim
  | _ :: _, _ :: _, [], _, h => h.elim
  | p :: lsP, q :: ls, c :: lc, ⟨h1, h2⟩, ⟨h3, h4⟩ => by
    have h1 : (Nat.beq p.1 q.1 && q_cmpV θ p.2 q.2) = true := h1
    have h3 : q.1 = c.1 ∧ q_rv ρ q.2 c.2 := h3
    rw [Bool.and_eq_true] at h1
    exact ⟨⟨(q_beq h1.1).trans h3.1, q_cmpV_ok hθ h1.2 h3.2⟩, q_lsc_ok hθ h2 h4⟩
def q_s6 : List q_N := [.inr 0, .inr 1, .inr 2, .inr 3, .inr 4, .inr 5]
/-- at the head again: the counter is one more -/
noncomputable def q_J (kl : Nat) (ws : List (Nat × Nat)) (EP : q_S) (N : Nat) (rows : q_H) (lsP : q_L) (ls : q_L) (st : List q_V) (A : q_A) : Bool := match st with
  | [] => (match q_gl ls kl with
    | some (.inl (.inr s)) => (match q_nth A.1 s with
      | some e => bif (Nat.beq e.2.2.1 1 && (q_nb e.2.2.2.1 (.inr 7) && q_nb e.2.2.2.2 (.inl 1))) && (q_ile 1 e.1 && q_ile e.2.1 60) then (bif q_lsc (q_s6 ++ (.inr 6 :: .inr s :: ws.map (q_rd A))) lsP ls then q_mat (q_s6 ++ (.inr 6 :: .inr s :: ws.map (q_rd A))) EP N rows q_s6 A else false) else false
      | none => false)
    | _ => false)
  | _ => false
/-- at the end -/
noncomputable def q_KQ (ws : List (Nat × Nat)) (EQ : q_S) (N : Nat) (rows : q_H) (v : Option q_V) (A : q_A) : Bool := match v with
  | none => q_mat (q_s6 ++ ws.map (q_rd A)) EQ N rows q_s6 A
  | some _ => false
theorem q_hk0_ok (T : q_T) (L : Nat) (scr : List q_N) (xs : Nat → Int32) (hk : q_Hk) (h : ∀ d x as A k, hk d x as A k = none) : q_HkOk T L scr xs hk := by
  intro d' x as A k hh
  rw [h] at hh
  cases hh
theorem q_add1 {u v : Int32} (h1 : 0 ≤ u.toInt) (h2 : u.toInt ≤ 60) (h3 : v.toInt = 1) : (u + v).toInt = u.toInt + 1 := by
  have e := q_ivop_ok 1 (x := u) (y := v) (p := (u.toInt, u.toInt)) (q := (v.toInt, v.toInt)) ⟨Int.le_refl _, Int.le_refl _⟩ ⟨Int.le_refl _, Int.le_refl _⟩
  unfold q_ivop at e
  dsimp only at e
  have hb : (q_ile (-2147483648) (u.toInt + v.toInt) && q_ile (u.toInt + v.toInt) 2147483647) = true := by
    rw [Bool.and_eq_true, q_ile_ok, q_ile_ok]
    omega
  rw [hb] at e
  have e : u.toInt + v.toInt ≤ (u + v).toInt ∧ (u + v).toInt ≤ u.toInt + v.toInt := e
  omega
set_option maxHeartbeats 1000000 in
theorem q_loop {xs : Nat → Int32} {hk : q_Hk} (hhk : ∀ d x as A k, hk d x as A k = none) {D h kl N fuel : Nat} {M : g_M} {wsJ wsQ : List (Nat × Nat)} {EP EQ : q_S} {rowsP rowsQ : q_H} {lsP : q_L}
    (hE7 : ∃ e : q_E, EP[7]? = some e ∧ 0 ≤ e.1 ∧ e.2.1 ≤ 60)
    (hchk : q_one 6 q_s6 hk (q_run (h, D, q_J kl wsJ EP N rowsP lsP) 6 q_s6 hk fuel) D M h lsP [] (EP, N, rowsP) (q_KQ wsQ EQ N rowsQ) = true) :
    ∀ (j : Nat) (ρ : List Int) (lc : g_Lc) (σ : List g_Ce) (kv : Int), q_ra ρ q_s6 xs (EP, N, rowsP) σ → q_rl ρ lsP lc → ρ[7]? = some kv → (60 - kv).toNat ≤ j → ∃ n0 σ' ρ', (∀ e, g_run g_mt 6 xs (n0 + e) D M h lc [] σ = some (none, σ')) ∧ q_ra ρ' q_s6 xs (EQ, N, rowsQ) σ' := by
  have hH : q_HkOk (h, D, q_J kl wsJ EP N rowsP lsP) 6 q_s6 xs hk := q_hk0_ok _ _ _ _ _ hhk
  have hS := q_one_ok (T := (h, D, q_J kl wsJ EP N rowsP lsP)) (L := 6) (scr := q_s6) (xs := xs) rfl (by decide) hH (q_sound rfl (by decide) hH fuel)
  intro j
  induction j with
  | zero =>
    intro ρ lc σ kv ra rl hk7 hj
    rcases hS D M h lsP [] (EP, N, rowsP) _ (Nat.le_refl _) hchk ρ lc [] σ rl trivial ra with ⟨n0, r, σ', ρ', v, A', a1, a2, a3, a4, a5⟩ | ⟨-, n0, n', lc', sc', σ', ρ', ls', st', A', a1, a2, a3, a4, a5, a6⟩
    · cases v with
      | some v => cases a5
      | none =>
        cases r with
        | some r => exact a3.elim
        | none => exact ⟨n0, σ', _, a1, (q_mat_ok a5 a4).1⟩
    · exfalso
      obtain ⟨e7, h71, h72, h73⟩ := hE7
      obtain ⟨y7, h74, h75, h76, -⟩ := ra.1.2 7 e7 h71
      have : kv = y7 := Option.some.inj (hk7.symm.trans h74)
      subst this
      have a6 : q_J kl wsJ EP N rowsP lsP ls' st' A' = true := a6
      unfold q_J at a6
      split at a6
      · split at a6
        · rename_i s hs
          split at a6
          · rename_i e he
            obtain ⟨b1, b2⟩ := q_bifc a6
            rw [Bool.and_eq_true, Bool.and_eq_true, Bool.and_eq_true, Bool.and_eq_true, q_ile_ok, q_ile_ok] at b1
            obtain ⟨⟨c1, c2, c3⟩, c4, c5⟩ := b1
            rw [q_nth_eq] at he
            obtain ⟨xx, d1, d2, d3, d4⟩ := a5.1.2 s e he
            have e1 := q_beq c1
            have e2 := q_nb_ok c2
            have e3 := q_nb_ok c3
            rcases d4 with d4 | ⟨u, v, u1, u2, u3⟩
            · rw [e1] at d4; cases d4
            · rw [e2] at u1
              rw [e3] at u2
              rw [e1] at u3
              have u1' : kv = u.toInt := q_r_inj (q_r_px a2 (a := .inr 7) hk7) u1
              have u2' : v.toInt = 1 := u2
              have u3' : xx = (u + v).toInt := u3
              have := q_add1 (u := u) (v := v) (by omega) (by omega) u2'
              omega
          · cases a6
        · cases a6
      · cases a6
  | succ j ih =>
    intro ρ lc σ kv ra rl hk7 hj
    rcases hS D M h lsP [] (EP, N, rowsP) _ (Nat.le_refl _) hchk ρ lc [] σ rl trivial ra with ⟨n0, r, σ', ρ', v, A', a1, a2, a3, a4, a5⟩ | ⟨-, n0, n', lc', sc', σ', ρ', ls', st', A', a1, a2, a3, a4, a5, a6⟩
    · cases v with
      | some v => cases a5
      | none =>
        cases r with
        | some r => exact a3.elim
        | none => exact ⟨n0, σ', _, a1, (q_mat_ok a5 a4).1⟩
    · obtain ⟨e7, h71, h72, h73⟩ := hE7
      obtain ⟨y7, h74, h75, h76, -⟩ := ra.1.2 7 e7 h71
      have : kv = y7 := Option.some.inj (hk7.symm.trans h74)
      subst this
      have a6 : q_J kl wsJ EP N rowsP lsP ls' st' A' = true := a6
      unfold q_J at a6
      split at a6
      · split at a6
        · rename_i s hs
          split at a6
          · rename_i e he
            obtain ⟨b1, b2⟩ := q_bifc a6
            obtain ⟨b3, b4⟩ := q_bifc b2
            rw [Bool.and_eq_true, Bool.and_eq_true, Bool.and_eq_true, Bool.and_eq_true, q_ile_ok, q_ile_ok] at b1
            obtain ⟨⟨c1, c2, c3⟩, c4, c5⟩ := b1
            rw [q_nth_eq] at he
            obtain ⟨xx, d1, d2, d3, d4⟩ := a5.1.2 s e he
            have e1 := q_beq c1
            have e2 := q_nb_ok c2
            have e3 := q_nb_ok c3
            rcases d4 with d4 | ⟨u, v, u1, u2, u3⟩
            · rw [e1] at d4; cases d4
            · rw [e2] at u1
              rw [e3] at u2
              rw [e1] at u3
              have u1' : kv = u.toInt := q_r_inj (q_r_px a2 (a := .inr 7) hk7) u1
              have u2' : v.toInt = 1 := u2
              have u3' : xx = (u + v).toInt := u3
              have hx := q_add1 (u := u) (v := v) (by omega) (by omega) u2'
              obtain ⟨m1, m2⟩ := q_mat_ok b4 a5
              have hθ : ∀ (k : Nat) (b : q_N), (q_s6 ++ (.inr 6 :: .inr s :: wsJ.map (q_rd A')))[k]? = some b → ∃ x, ((q_s6 ++ (.inr 6 :: .inr s :: wsJ.map (q_rd A'))).map (q_val ρ'))[k]? = some x ∧ q_r ρ' b x := fun k b hb => ⟨q_val ρ' b, by rw [List.getElem?_map, hb]; rfl, m2 k b hb⟩
              have rl2 := q_lsc_ok hθ (q_all2b_ok b3) a3
              have hsv : q_val ρ' (.inr s) = xx := q_r_inj (m2 7 (.inr s) rfl) d1
              cases sc' with
              | cons _ _ => exact a4.elim
              | nil =>
                obtain ⟨n1, σ2, ρ2, g1, g2⟩ := ih _ lc' σ' xx m1 rl2 (by show some (q_val ρ' (.inr s)) = some xx; rw [hsv]) (by omega)
                refine ⟨n0 + n1, σ2, ρ2, fun e => ?_, g2⟩
                rw [show n0 + n1 + e = n0 + (n1 + e) by omega, a1, show n' + (n1 + e) = n1 + (n' + e) by omega]
                exact g1 _
          · cases a6
        · cases a6
      · cases a6
