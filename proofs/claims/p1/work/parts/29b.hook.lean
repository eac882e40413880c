/-- at the head for the first time -/
noncomputable def q_J1 (kl : Nat) (ws : List (Nat × Nat)) (EP : q_S) (N : Nat) (rows : q_H) (lsP : q_L) (ls : q_L) (st : List q_V) (A : q_A) : Bool := match st with
  | [] => (match q_gl ls kl with
    | some (.inl b) => bif q_lsc (q_s6 ++ (.inr 6 :: b :: ws.map (q_rd A))) lsP ls then q_mat (q_s6 ++ (.inr 6 :: b :: ws.map (q_rd A))) EP N rows q_s6 A else false
    | _ => false)
  | _ => false
noncomputable def q_th (nl : Nat) (ws : List (Nat × Nat)) (as : List q_V) (A : q_A) : List q_N := q_s6 ++ ((match q_nth as nl with
  | some (.inl a) => a
  | _ => .inl 0) :: ws.map (q_rd A))
noncomputable def q_fr (A : q_A) (j : Nat) : Nat := bif Nat.blt j 6 then j else q_len A.1 + (j - 6)
/-- the hook: the callee's start is the pattern's; what it leaves is the post pattern -/
noncomputable def q_hkE (asP : List q_V) (nl : Nat) (ws : List (Nat × Nat)) (EA : q_S) (N : Nat) (rowsA : q_H) (EQ : q_S) (rowsQ : q_H) (as : List q_V) (A : q_A) (k : q_K) : Bool :=
  bif q_all2b (q_cmpV (q_th nl ws as A)) asP as then (bif q_mat (q_th nl ws as A) EA N rowsA q_s6 A then k none (A.1 ++ EQ.drop 6, N, q_rnH (q_fr A) rowsQ) else false) else false
set_option maxHeartbeats 1000000 in
theorem q_hook {xs : Nat → Int32} {hk : q_Hk} (hhk : ∀ d x as A k, hk d x as A k = none) {D h kl N fuel fuel1 nl : Nat} {M : g_M} {wsA ws1 wsJ wsQ : List (Nat × Nat)} {EA EP EQ : q_S} {rowsA rowsP rowsQ : q_H} {lsP : q_L} {asP : List q_V}
    (hE7 : ∃ e : q_E, EP[7]? = some e ∧ 0 ≤ e.1 ∧ e.2.1 ≤ 60) (hEQ : ∀ (k : Nat) (e : q_E), EQ[k]? = some e → e.2.2.1 = 0)
    (hchk1 : q_run (h, D, q_J1 kl ws1 EP N rowsP lsP) 6 q_s6 hk fuel1 D M 0 (q_args 0 asP) [] (EA, N, rowsA) (fun _ _ => false) = true)
    (hchk : q_one 6 q_s6 hk (q_run (h, D, q_J kl wsJ EP N rowsP lsP) 6 q_s6 hk fuel) D M h lsP [] (EP, N, rowsP) (q_KQ wsQ EQ N rowsQ) = true)
    {as : List q_V} {A : q_A} {k : q_K} (hh : q_hkE asP nl wsA EA N rowsA EQ rowsQ as A k = true) {ρ : List Int} {ac : List Value} {σ : List g_Ce} (ra : q_al2 (q_rv ρ) as ac) (r3 : q_ra ρ q_s6 xs A σ) :
    ∃ n0 r σ' ρ' v A', (∀ e, g_run g_mt 6 xs (n0 + e) D M 0 (lv_args 0 ac) [] σ = some (r, σ')) ∧ q_px ρ ρ' ∧ q_ro ρ' v r ∧ q_ra ρ' q_s6 xs A' σ' ∧ k v A' = true := by
  unfold q_hkE at hh
  obtain ⟨b1, b2⟩ := q_bifc hh
  obtain ⟨b3, b4⟩ := q_bifc b2
  obtain ⟨m1, m2⟩ := q_mat_ok b3 r3
  have hθ : ∀ (j : Nat) (b : q_N), (q_th nl wsA as A)[j]? = some b → ∃ x, ((q_th nl wsA as A).map (q_val ρ))[j]? = some x ∧ q_r ρ b x := fun j b hb => ⟨q_val ρ b, by rw [List.getElem?_map, hb]; rfl, m2 j b hb⟩
  have ra2 : q_al2 (q_rv ((q_th nl wsA as A).map (q_val ρ))) asP ac := by
    have key : ∀ {s t : List q_V} {vs : List Value}, q_al2 (fun a b => q_cmpV (q_th nl wsA as A) a b = true) s t → q_al2 (q_rv ρ) t vs → q_al2 (q_rv ((q_th nl wsA as A).map (q_val ρ))) s vs := by
      intro s
      induction s with
      | nil =>
        intro t vs h1 h2
        cases t with
        | nil => cases vs with
          | nil => trivial
          | cons _ _ => exact h2.elim
        | cons _ _ => exact h1.elim
      | cons a s ihs =>
        intro t vs h1 h2
        cases t with
        | nil => exact h1.elim
        | cons b t => cases vs with
          | nil => exact h2.elim
          | cons v vs => exact ⟨q_cmpV_ok hθ h1.1 h2.1, ihs h1.2 h2.2⟩
    exact key (q_all2b_ok b1) ra
  have hH : q_HkOk (h, D, q_J1 kl ws1 EP N rowsP lsP) 6 q_s6 xs hk := q_hk0_ok _ _ _ _ _ hhk
  have main : ∃ n0 σ' ρQ, (∀ e, g_run g_mt 6 xs (n0 + e) D M 0 (lv_args 0 ac) [] σ = some (none, σ')) ∧ q_ra ρQ q_s6 xs (EQ, N, rowsQ) σ' := by
    rcases q_sound (T := (h, D, q_J1 kl ws1 EP N rowsP lsP)) (L := 6) (scr := q_s6) (xs := xs) rfl (by decide) hH fuel1 D M 0 (q_args 0 asP) [] (EA, N, rowsA) _ (Nat.le_refl _) hchk1 _ (lv_args 0 ac) [] σ (q_args_ok ra2 0) trivial m1 with ⟨n0, r, σ', ρ', v, A', -, -, -, -, a5⟩ | ⟨-, n0, n', lc', sc', σ', ρ', ls', st', A', a1, a2, a3, a4, a5, a6⟩
    · cases a5
    · have a6 : q_J1 kl ws1 EP N rowsP lsP ls' st' A' = true := a6
      unfold q_J1 at a6
      split at a6
      · split at a6
        · rename_i b hb
          obtain ⟨c1, c2⟩ := q_bifc a6
          obtain ⟨p1, p2⟩ := q_mat_ok c2 a5
          have hθ2 : ∀ (j : Nat) (c : q_N), (q_s6 ++ (.inr 6 :: b :: ws1.map (q_rd A')))[j]? = some c → ∃ x, ((q_s6 ++ (.inr 6 :: b :: ws1.map (q_rd A'))).map (q_val ρ'))[j]? = some x ∧ q_r ρ' c x := fun j c hc => ⟨q_val ρ' c, by rw [List.getElem?_map, hc]; rfl, p2 j c hc⟩
          have rl2 := q_lsc_ok hθ2 (q_all2b_ok c1) a3
          cases sc' with
          | cons _ _ => exact a4.elim
          | nil =>
            obtain ⟨n1, σ2, ρ2, g1, g2⟩ := q_loop (xs := xs) hhk hE7 hchk _ _ lc' σ' (q_val ρ' b) p1 rl2 rfl (Nat.le_refl _)
            refine ⟨n0 + n1, σ2, ρ2, fun e => ?_, g2⟩
            rw [show n0 + n1 + e = n0 + (n1 + e) by omega, a1, show n' + (n1 + e) = n1 + (n' + e) by omega]
            exact g1 _
        · cases a6
      · cases a6
  obtain ⟨n0, σ', ρQ, g1, g2⟩ := main
  have hp : q_px ρ (ρ ++ ρQ.drop 6) := ⟨_, rfl⟩
  have hs6 : ∀ j, j < 6 → q_s6[j]? = some (.inr j) := by
    intro j hj
    match j, hj with
    | 0, _ => rfl
    | 1, _ => rfl
    | 2, _ => rfl
    | 3, _ => rfl
    | 4, _ => rfl
    | 5, _ => rfl
    | m + 6, h => omega
  have hf : ∀ (j : Nat) (x : Int), ρQ[j]? = some x → (ρ ++ ρQ.drop 6)[q_fr A j]? = some x := by
    intro j x hj
    unfold q_fr
    cases hb : Nat.blt j 6 with
    | true =>
      have hlt := q_blt hb
      have e1 : ρQ[j]? = some (xs j).toInt := g2.2.2 j (.inr j) (hs6 j hlt)
      have e2 : ρ[j]? = some (xs j).toInt := r3.2.2 j (.inr j) (hs6 j hlt)
      have : x = (xs j).toInt := Option.some.inj (hj.symm.trans e1)
      subst this
      exact q_r_px hp (a := .inr j) e2
    | false =>
      have hge : ¬ j < 6 := fun h => by rw [← Nat.blt_eq] at h; rw [h] at hb; cases hb
      show (ρ ++ ρQ.drop 6)[q_len A.1 + (j - 6)]? = some x
      rw [q_len_eq, ← r3.1.1, List.getElem?_append_right (by omega), List.getElem?_drop]
      rw [show 6 + (ρ.length + (j - 6) - ρ.length) = j by omega]
      exact hj
  refine ⟨n0, none, σ', ρ ++ ρQ.drop 6, none, _, g1, hp, trivial, ⟨⟨?_, fun j e hj => ?_⟩, q_rnH_ok hf g2.2.1, q_rs_px hp r3.2.2⟩, b4⟩
  · show (ρ ++ ρQ.drop 6).length = (A.1 ++ EQ.drop 6).length
    have := g2.1.1
    have e2 := r3.1.1
    dsimp only at this
    simp only [List.length_append, List.length_drop]
    omega
  · have hj : (A.1 ++ EQ.drop 6)[j]? = some e := hj
    by_cases hl : j < A.1.length
    · rw [List.getElem?_append_left hl] at hj
      obtain ⟨x, a1, a2, a3, a4⟩ := r3.1.2 j e hj
      exact ⟨x, q_r_px (a := .inr j) hp a1, a2, a3, a4.imp id (fun ⟨u, v, c1, c2, c3⟩ => ⟨u, v, q_r_px hp c1, q_r_px hp c2, c3⟩)⟩
    · rw [List.getElem?_append_right (by omega), List.getElem?_drop] at hj
      obtain ⟨x, a1, a2, a3, -⟩ := g2.1.2 _ e hj
      refine ⟨x, ?_, a2, a3, Or.inl (hEQ _ e hj)⟩
      rw [List.getElem?_append_right (by rw [r3.1.1]; omega), List.getElem?_drop, r3.1.1]
      exact a1
