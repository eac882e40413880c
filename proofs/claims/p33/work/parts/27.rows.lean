/-! contracts by bounds, in rows -/
abbrev v_Pt : Type := (Int × Int) ⊕ (Nat ⊕ (Int × Int))
/-- a row: depth, arguments, answer, what may be written -/
abbrev v_Rw : Type := Nat × List v_Pt × Option (Int × Int) × List (Nat × Nat × Nat)
noncomputable def v_mt1 (env : q_S) (p : v_Pt) (v : q_V) : Bool := match p, v with
  | .inl b, .inl a => v_in (q_iv env a) b.1 b.2
  | .inr (.inl r), .inr (.inr (some r')) => Nat.beq r r'
  | .inr (.inr b), .inr (.inl a) => v_in (q_iv env a) b.1 b.2
  | _, _ => false
noncomputable def v_mt (env : q_S) (ps : List v_Pt) : List q_V → Bool := List.rec (motive := fun _ => List q_V → Bool) (fun as => match as with
  | [] => true
  | _ :: _ => false) (fun p _ ih as => match as with
  | [] => false
  | v :: as => v_mt1 env p v && ih as) ps
noncomputable def v_find (D d' : Nat) (env : q_S) (as : List q_V) (l : List v_Rw) : Option v_Rw := List.rec (motive := fun _ => Option v_Rw) none (fun w _ ih => bif (Nat.ble w.1 d' && Nat.blt w.1 D) && v_mt env w.2.1 as then some w else ih) l
noncomputable def v_sub (m mods : List (Nat × Nat × Nat)) : Bool := List.rec (motive := fun _ => Bool) true (fun h _ ih => v_md mods h.1 h.2.1 h.2.2 && ih) m
noncomputable def v_post (w : v_Rw) (mods : List (Nat × Nat × Nat)) (A : v_A) (k : v_K) : Bool := bif v_sub w.2.2.2 mods then (match w.2.2.1 with
  | none => k none (A.1, v_ok A.1 w.2.2.2 A.2.1, v_rk w.2.2.2 A.2.2)
  | some b => q_new A.1 (b.1, b.2, 0, .inl 0, .inl 0) (fun v e => k (some (.inl v)) (e, v_ok A.1 w.2.2.2 A.2.1, v_rk w.2.2.2 A.2.2))) else false
noncomputable def v_hkr (sp : v_Hk) (rw : Nat → List v_Rw) (D : Nat) (mods : List (Nat × Nat × Nat)) : v_Hk := fun d' x as A k => match sp d' x as A k with
  | some b => some b
  | none => (match v_find D d' A.1 as (rw x) with
    | some w => some (v_post w mods A k)
    | none => none)
def v_ac1 (p : v_Pt) (w : Value) : Prop := match p with
  | .inl b => ∃ x : Int32, w = .int x ∧ b.1 ≤ x.toInt ∧ x.toInt ≤ b.2
  | .inr (.inl r) => w = .ref r
  | .inr (.inr b) => ∃ x : Int64, w = .long x ∧ b.1 ≤ x.toInt ∧ x.toInt ≤ b.2
def v_rk1 (b : Option (Int × Int)) (r : Option Value) : Prop := match b with
  | none => r = none
  | some b => ∃ x : Int32, r = some (.int x) ∧ b.1 ≤ x.toInt ∧ x.toInt ≤ b.2
def v_Met (L : Nat) (xs : Nat → Int32) (ty : Nat → Option v_Ct) (Op : v_Sf → Prop) (x : Nat) (w : v_Rw) : Prop := ∀ M, g_mt x = some M → ∀ (ac : List Value) (S : v_Sf) (R : v_Rf), q_al2 v_ac1 w.2.1 ac → v_Tb ty S R → Op S → ∃ n r S' R', (∀ e, g_run g_mt L xs (n + e) w.1 M 0 (lv_args 0 ac) [] (v_mk ty S R) = some (r, v_mk ty S' R')) ∧ v_Tb ty S' R' ∧ Op S' ∧ v_rk1 w.2.2.1 r ∧ v_Fr w.2.2.2 S R S' R'
theorem g_nv_0 (x : Nat) (st : List Value) (σ : List g_Ce) : g_nv 0 x st σ = none := by
  have h1 : g_cp 0 st σ = none := by
    unfold g_cp
    split
    · split
      · split
        · rw [if_neg (fun h => by have := h.2.2.2.2.2.2; omega)]
        · rfl
      · rfl
    · rfl
  have h2 : ∀ f, g_m2 0 f st σ = none := by
    intro f
    unfold g_m2
    split
    · rw [if_neg (fun h => by have := h.2; omega)]
    · rfl
  have h3 : ∀ f, g_m1 0 f st σ = none := by
    intro f
    unfold g_m1
    split
    · rw [if_neg (fun h => by have := h.2; omega)]
    · rfl
  unfold g_nv
  rw [h1, h2, h2, h3]
  cases x == 99998 <;> cases x == 99997 <;> cases x == 99996 <;> cases x == 99995 <;> rfl
theorem g_nv_d {d d' : Nat} (h0 : 0 < d) (hd : d ≤ d') (x : Nat) (st : List Value) (σ : List g_Ce) : g_nv d x st σ = g_nv d' x st σ := by
  have e : (0 < d) = (0 < d') := propext ⟨fun _ => by omega, fun _ => h0⟩
  unfold g_nv g_cp g_m2 g_m1
  simp only [e]
theorem g_hp_d {d d' L : Nat} {xs : Nat → Int32} {ins : Instr} {x y : Nat} {st : List Value} {σ : List g_Ce} {q : List Value × List g_Ce} (hd : d ≤ d') (h : g_hp d L xs ins x y st σ = some q) : g_hp d' L xs ins x y st σ = some q := by
  rcases Nat.eq_zero_or_pos d with h0 | h0
  · subst h0
    cases ins <;> first | exact h | (have h : g_nv 0 x st σ = some q := h; rw [g_nv_0] at h; cases h)
  · cases ins <;> first | exact h | (have h : g_nv d x st σ = some q := h; rw [g_nv_d h0 hd] at h; exact h)
theorem g_step_d {d d' nL L : Nat} {xs : Nat → Int32} {en : g_En} {pc : Nat} {ls : g_Lc} {st : List Value} {σ : List g_Ce} {q : Nat × g_Lc × List Value × List g_Ce} (hd : d ≤ d') (h : g_step d nL L xs en pc ls st σ = some q) : g_step d' nL L xs en pc ls st σ = some q := by
  unfold g_step at h
  split at h
  · rename_i st' h1
    cases h
    exact g_st_stk h1
  · rename_i h1
    split at h
    · rename_i q' h2
      cases h
      exact g_st_lcl h1 h2
    · rename_i h2
      split at h
      · rename_i q' h3
        cases h
        exact g_st_jmp h1 h2 h3
      · rename_i h3
        split at h
        · rename_i q' h4
          cases h
          exact g_st_hp h1 h2 h3 (g_hp_d hd h4)
        · cases h
theorem g_step_none {d d' nL L : Nat} {xs : Nat → Int32} {en : g_En} {pc : Nat} {ls : g_Lc} {st : List Value} {σ : List g_Ce} (h0 : 0 < d) (hd : d ≤ d') (h : g_step d nL L xs en pc ls st σ = none) : g_step d' nL L xs en pc ls st σ = none := by
  have e : ∀ ins x y, g_hp d L xs ins x y st σ = g_hp d' L xs ins x y st σ := by
    intro ins x y
    cases ins <;> first | rfl | exact g_nv_d h0 hd x st σ
  unfold g_step at h ⊢
  rw [← e]
  exact h
theorem g_step_ret {d' nL L : Nat} {xs : Nat → Int32} {en : g_En} {pc : Nat} {ls : g_Lc} {st : List Value} {σ : List g_Ce} {ret : Option FieldType} {r : Option Value} (h : g_rt en.1.1 ret st = some r) : g_step d' nL L xs en pc ls st σ = none := by
  obtain ⟨⟨ins, len⟩, x, y, z⟩ := en
  unfold g_rt at h
  dsimp only at h
  split at h <;> first | rfl | cases h
theorem g_mac_d {d d' : Nat} {M : g_M} {pc : Nat} {ls : g_Lc} {st st' : List Value} (hd : d ≤ d') (h : g_mac d M pc ls st = some st') : g_mac d' M pc ls st = some st' := by
  unfold g_mac at h ⊢
  split at h
  · rename_i hc
    rw [if_pos ⟨hc.1, hc.2.1, hc.2.2.1, hc.2.2.2.1, hc.2.2.2.2.1, by omega⟩]
    exact h
  · cases h
theorem g_run_oi {L : Nat} {xs : Nat → Int32} {n d' : Nat} {M : g_M} {pc : Nat} {lc : g_Lc} {sc rest : List Value} {σ : List g_Ce} {ins : Instr} {len x y k : Nat} {z : Int} (hen : M.2.2.2.2.2 pc = some ((ins, len), x, y, z)) (h0 : g_step (d' + 1) M.2.2.2.1 L xs ((ins, len), x, y, z) pc lc sc σ = none) (h1 : g_rt ins M.2.2.2.2.1 sc = none) (h2 : g_ki ins = some k) (h3 : (x == 99999) = true) (h4 : g_oi k sc = some rest) : g_run g_mt L xs (n + 1) (d' + 1) M pc lc sc σ = g_run g_mt L xs n (d' + 1) M (pc + 3) lc rest σ := by
  rw [g_run]
  simp only [hen, h0, h1, h2, h3, h4, cond_true]
/-- more depth does no harm -/
theorem g_run_d (L : Nat) (xs : Nat → Int32) : ∀ (n d d' : Nat) (M : g_M) (pc : Nat) (ls : g_Lc) (st : List Value) (σ : List g_Ce) (r : Option Value × List g_Ce), d ≤ d' → g_run g_mt L xs n d M pc ls st σ = some r → g_run g_mt L xs n d' M pc ls st σ = some r := by
  intro n
  induction n with
  | zero => intro d d' M pc ls st σ r hd h; simp [g_run] at h
  | succ n ih =>
    intro d d' M pc ls st σ r hd h
    rw [g_run] at h
    split at h
    · rename_i hn
      split at h
      · rename_i hm
        rw [g_run]
        simp only [hn, g_mac_d hd hm]
        exact ih _ _ _ _ _ _ _ _ hd h
      · cases h
    · rename_i en hen
      split at h
      · rename_i q hs
        rw [g_run_step hen (g_step_d hd hs)]
        exact ih _ _ _ _ _ _ _ _ hd h
      · rename_i hs
        split at h
        · rename_i r0 hrt
          cases h
          exact g_run_ret hen (g_step_ret hrt) hrt
        · rename_i hrt
          split at h
          · cases h
          · rename_i k hk
            cases d with
            | zero => cases h
            | succ e =>
              obtain ⟨e', rfl⟩ : ∃ e', d' = e' + 1 := ⟨d' - 1, by omega⟩
              have hs2 := g_step_none (by omega) hd hs
              obtain ⟨⟨ins, len⟩, x, y, z⟩ := en
              dsimp only at h hrt hk
              cases hx : (x == 99999) with
              | true =>
                rw [hx] at h
                dsimp only [cond_true] at h
                split at h
                · rename_i ho
                  rw [g_run_oi hen hs2 hrt hk hx ho]
                  exact ih _ _ _ _ _ _ _ _ hd h
                · cases h
              | false =>
                rw [hx] at h
                dsimp only [cond_false] at h
                split at h
                · cases h
                · rename_i M' hM'
                  split at h
                  · cases h
                  · rename_i q hq
                    cases hc : (decide (g_cat q.2 ≤ 8) && decide ((lg_sl q.1).length ≤ M'.2.2.2.1)) with
                    | false => rw [hc] at h; cases h
                    | true =>
                      rw [hc] at h
                      dsimp only [cond_true] at h
                      rw [Bool.and_eq_true, decide_eq_true_eq, decide_eq_true_eq] at hc
                      split at h
                      · cases h
                      · rename_i w hw
                        rw [g_run_call hen hs2 hrt hk hx hM' hq hc.1 hc.2 (ih _ _ _ _ _ _ _ _ (by omega) hw)]
                        exact ih _ _ _ _ _ _ _ _ hd h
theorem v_mt_ok {ρ : List Int} {env : q_S} (he : q_re ρ env) : ∀ {ps : List v_Pt} {as : List q_V} {ac : List Value}, v_mt env ps as = true → q_al2 (q_rv ρ) as ac → q_al2 v_ac1 ps ac
  | [], [], [], _, _ => trivial
  | [], [], _ :: _, _, h => h.elim
  | [], _ :: _, _, h, _ => by cases h
  | _ :: _, [], _, h, _ => by cases h
  | _ :: _, _ :: _, [], _, h => h.elim
  | p :: ps, v :: as, w :: ac, h, ⟨h2, h3⟩ => by
    have h : (v_mt1 env p v && v_mt env ps as) = true := h
    rw [Bool.and_eq_true] at h
    refine ⟨?_, v_mt_ok he h.2 h3⟩
    have h1 := h.1
    unfold v_mt1 at h1
    split at h1
    · obtain ⟨u, rfl, g⟩ := h2
      have := v_in_ok h1 (q_iv_ok he g)
      exact ⟨u, rfl, this.1, this.2⟩
    · rw [q_beq h1]
      exact h2
    · obtain ⟨u, rfl, g⟩ := h2
      have := v_in_ok h1 (q_iv_ok he g)
      exact ⟨u, rfl, this.1, this.2⟩
    · cases h1
theorem v_find_ok {D d' : Nat} {env : q_S} {as : List q_V} : ∀ {l : List v_Rw} {w : v_Rw}, v_find D d' env as l = some w → w ∈ l ∧ w.1 ≤ d' ∧ w.1 < D ∧ v_mt env w.2.1 as = true
  | [], _, h => by cases h
  | q :: l, w, h => by
    have h : (bif (Nat.ble q.1 d' && Nat.blt q.1 D) && v_mt env q.2.1 as then some q else v_find D d' env as l) = some w := h
    cases hb : ((Nat.ble q.1 d' && Nat.blt q.1 D) && v_mt env q.2.1 as) with
    | true =>
      rw [hb] at h
      cases h
      simp only [Bool.and_eq_true, Nat.ble_eq] at hb
      exact ⟨List.mem_cons_self, hb.1.1, q_blt hb.1.2, hb.2⟩
    | false =>
      rw [hb] at h
      obtain ⟨g1, g2⟩ := v_find_ok h
      exact ⟨List.mem_cons_of_mem _ g1, g2⟩
theorem v_md_lt : ∀ {m : List (Nat × Nat × Nat)} {a j : Nat}, v_md m a j j = true → ∃ q ∈ m, q.1 = a ∧ q.2.1 ≤ j ∧ j ≤ q.2.2
  | [], _, _, h => by cases h
  | q :: m, a, j, h => by
    have h : (bif Nat.beq q.1 a && (Nat.ble q.2.1 j && Nat.ble j q.2.2) then true else v_md m a j j) = true := h
    cases hb : (Nat.beq q.1 a && (Nat.ble q.2.1 j && Nat.ble j q.2.2)) with
    | true =>
      simp only [Bool.and_eq_true, Nat.ble_eq] at hb
      exact ⟨q, List.mem_cons_self, q_beq hb.1, hb.2.1, hb.2.2⟩
    | false =>
      rw [hb] at h
      obtain ⟨q2, g1, g2⟩ := v_md_lt h
      exact ⟨q2, List.mem_cons_of_mem _ g1, g2⟩
theorem v_sub_ok {mods : List (Nat × Nat × Nat)} : ∀ {m : List (Nat × Nat × Nat)}, v_sub m mods = true → ∀ q ∈ m, v_md mods q.1 q.2.1 q.2.2 = true
  | [], _, q, hq => by cases hq
  | p :: m, h, q, hq => by
    have h : (v_md mods p.1 p.2.1 p.2.2 && v_sub m mods) = true := h
    rw [Bool.and_eq_true] at h
    rcases List.mem_cons.mp hq with hq | hq
    · subst hq; exact h.1
    · exact v_sub_ok h.2 q hq
theorem v_sub_md {m mods : List (Nat × Nat × Nat)} (h : v_sub m mods = true) {a j : Nat} (hm : v_md mods a j j = false) : v_md m a j j = false := by
  cases hc : v_md m a j j with
  | false => rfl
  | true =>
    obtain ⟨q, g1, g2, g3, g4⟩ := v_md_lt hc
    have := v_md_mono (v_sub_ok h q g1) g3 g4
    rw [g2, hm] at this
    cases this
/-- what a row's contract gives at a call -/
theorem v_post_ok {X : v_X} {x d' : Nat} {w : v_Rw} (hm : v_Met X.1 X.2.1 X.2.2.1.1 X.2.2.2.1 x w) (hd : w.1 ≤ d') {M' : g_M} (hM : g_mt x = some M') {ρ : List Int} {A : v_A} {S : v_Sf} {R : v_Rf} {ac : List Value} (ha : q_al2 v_ac1 w.2.1 ac) (r3 : v_ra X ρ A S R) {k : v_K} (h : v_post w X.2.2.1.2.1 A k = true) {Q : Option Value → v_Sf → v_Rf → Prop} (hK : v_KOk X ρ k Q) : v_Tm X d' M' 0 (lv_args 0 ac) [] S R Q := by
  obtain ⟨n, r, S', R', a1, a2, a3, a4, a5⟩ := hm M' hM ac S R ha r3.2.2.2.1 r3.2.2.2.2.1
  refine ⟨n, r, S', R', fun e => g_run_d _ _ _ _ _ _ _ _ _ _ _ hd (a1 e), ?_⟩
  unfold v_post at h
  replace h := q_bifc h
  obtain ⟨hs, h⟩ := h
  have kov := v_keep (m := w.2.2.2) r3.1 r3.2.1 (S1 := S') (fun a j hm => (a5 a j hm).1)
  have krv : ∀ q ∈ v_rk w.2.2.2 A.2.2, R' q.1 q.2.1 = q.2.2 := by
    intro q hq
    obtain ⟨g3, g4⟩ := v_rk_in hq
    rw [(a5 _ _ (v_hit_md g4 (Nat.le_refl _) (Nat.le_refl _))).2]
    exact r3.2.2.1 q g3
  have inn : v_In X S' R' := ⟨a2, a3, fun a j hm => by
    have h1 := a5 a j (v_sub_md hs hm)
    have h2 := r3.2.2.2.2.2 a j hm
    exact ⟨h1.1.trans h2.1, h1.2.trans h2.2⟩⟩
  split at h
  · rename_i hr
    rw [hr] at a4
    have a4 : r = none := a4
    subst a4
    exact hK ρ none _ none S' R' (q_px_rf ρ) h trivial ⟨r3.1, kov, krv, inn⟩
  · rename_i b hr
    rw [hr] at a4
    obtain ⟨u, rfl, b1, b2⟩ := a4
    obtain ⟨n1, n2, n3⟩ := q_new_ok r3.1 (e := (b.1, b.2, 0, .inl 0, .inl 0)) b1 b2 (Or.inl rfl)
    refine hK _ (some (.inl (.inr (q_len A.1)))) _ (some (.int u)) S' R' n1 h ⟨u, rfl, n3⟩ ⟨n2, fun q hq => ?_, krv, inn⟩
    obtain ⟨j, g1, g2⟩ := kov q hq
    exact ⟨j, q_r_px n1 g1, q_r_px n1 g2⟩
theorem v_hkr_ok {X : v_X} {sp : v_Hk} {rw : Nat → List v_Rw} {D : Nat} (hh : X.2.2.1.2.2.2.2 = v_hkr sp rw D X.2.2.1.2.1) (hsp : ∀ (d' x : Nat) (as : List q_V) (A : v_A) (k : v_K), sp d' x as A k = some true → ∀ (M' : g_M) (ρ : List Int) (ac : List Value) (S : v_Sf) (R : v_Rf) (Q : Option Value → v_Sf → v_Rf → Prop), g_mt x = some M' → q_al2 (q_rv ρ) as ac → v_ra X ρ A S R → v_KOk X ρ k Q → v_Tm X d' M' 0 (lv_args 0 ac) [] S R Q) (hm : ∀ x, ∀ w ∈ rw x, w.1 < D → v_Met X.1 X.2.1 X.2.2.1.1 X.2.2.2.1 x w) : v_HkOk X := by
  intro d' x as A k hk M' ρ ac S R Q hM ra r3 hK
  rw [hh] at hk
  unfold v_hkr at hk
  split at hk
  · rename_i b hb
    cases hk
    exact hsp d' x as A k hb M' ρ ac S R Q hM ra r3 hK
  · split at hk
    · rename_i w hw
      obtain ⟨g1, g2, g3, g4⟩ := v_find_ok hw
      exact v_post_ok (hm x w g1 g3) g2 hM (v_mt_ok r3.1 g4 ra) r3 (Option.some.inj hk) hK
    · cases hk
/-- a row's start: a symbol for each number -/
noncomputable def v_a0 (ps : List v_Pt) : Nat → List q_V := List.rec (motive := fun _ => Nat → List q_V) (fun _ => []) (fun p _ ih n => match p with
  | .inl _ => .inl (.inr n) :: ih (Nat.succ n)
  | .inr (.inl r) => .inr (.inr (some r)) :: ih n
  | .inr (.inr _) => .inr (.inl (.inr n)) :: ih (Nat.succ n)) ps
noncomputable def v_e0 (ps : List v_Pt) : q_S := List.rec (motive := fun _ => q_S) [] (fun p _ ih => match p with
  | .inl b => (b.1, b.2, 0, .inl 0, .inl 0) :: ih
  | .inr (.inl _) => ih
  | .inr (.inr b) => (b.1, b.2, 0, .inl 0, .inl 0) :: ih) ps
theorem v_a0_ok : ∀ {ps : List v_Pt} {ac : List Value}, q_al2 v_ac1 ps ac → ∃ gv : List Int, gv.length = (v_e0 ps).length ∧ (∀ (k : Nat) (e : q_E), (v_e0 ps)[k]? = some e → ∃ x, gv[k]? = some x ∧ e.1 ≤ x ∧ x ≤ e.2.1 ∧ e.2.2.1 = 0) ∧ ∀ (ρ : List Int), q_al2 (q_rv (ρ ++ gv)) (v_a0 ps ρ.length) ac
  | [], [], _ => ⟨[], rfl, fun k e h => by
      have h : ([] : q_S)[k]? = some e := h
      simp at h, fun _ => trivial⟩
  | [], _ :: _, h => h.elim
  | _ :: _, [], h => h.elim
  | .inr (.inl r) :: ps, w :: ac, ⟨h1, h2⟩ => by
    obtain ⟨gv, g1, g2, g3⟩ := v_a0_ok h2
    exact ⟨gv, g1, g2, fun ρ => ⟨h1, g3 ρ⟩⟩
  | .inl b :: ps, w :: ac, ⟨⟨u, h0, h1, h3⟩, h2⟩ => by
    obtain ⟨gv, g1, g2, g3⟩ := v_a0_ok h2
    refine ⟨u.toInt :: gv, ?_, fun k e hk => ?_, fun ρ => ⟨⟨u, h0, ?_⟩, ?_⟩⟩
    · show gv.length + 1 = (v_e0 ps).length + 1
      omega
    · have hk : ((b.1, b.2, 0, .inl 0, .inl 0) :: v_e0 ps)[k]? = some e := hk
      cases k with
      | zero => simp at hk; subst hk; exact ⟨u.toInt, by simp, h1, h3, rfl⟩
      | succ k =>
        obtain ⟨x, k1, k2⟩ := g2 k e (by simpa using hk)
        exact ⟨x, by simpa using k1, k2⟩
    · show (ρ ++ u.toInt :: gv)[ρ.length]? = some u.toInt
      simp
    · have := g3 (ρ ++ [u.toInt])
      rw [List.length_append] at this
      have h5 : q_al2 (q_rv (ρ ++ u.toInt :: gv)) (v_a0 ps (ρ.length + 1)) ac := by simpa using this
      exact h5
  | .inr (.inr b) :: ps, w :: ac, ⟨⟨u, h0, h1, h3⟩, h2⟩ => by
    obtain ⟨gv, g1, g2, g3⟩ := v_a0_ok h2
    refine ⟨u.toInt :: gv, ?_, fun k e hk => ?_, fun ρ => ⟨⟨u, h0, ?_⟩, ?_⟩⟩
    · show gv.length + 1 = (v_e0 ps).length + 1
      omega
    · have hk : ((b.1, b.2, 0, .inl 0, .inl 0) :: v_e0 ps)[k]? = some e := hk
      cases k with
      | zero => simp at hk; subst hk; exact ⟨u.toInt, by simp, h1, h3, rfl⟩
      | succ k =>
        obtain ⟨x, k1, k2⟩ := g2 k e (by simpa using hk)
        exact ⟨x, by simpa using k1, k2⟩
    · show (ρ ++ u.toInt :: gv)[ρ.length]? = some u.toInt
      simp
    · have := g3 (ρ ++ [u.toInt])
      rw [List.length_append] at this
      have h5 : q_al2 (q_rv (ρ ++ u.toInt :: gv)) (v_a0 ps (ρ.length + 1)) ac := by simpa using this
      exact h5
noncomputable def v_kr (b : Option (Int × Int)) : v_K := fun v A => match b, v with
  | none, none => true
  | some b, some (.inl a) => v_in (q_iv A.1 a) b.1 b.2
  | _, _ => false
noncomputable def v_hl (l : List (Nat × Nat × v_Hp)) (μ pc : Nat) : Option v_Hp := List.rec (motive := fun _ => Option v_Hp) none (fun h _ ih => bif Nat.beq h.1 μ && Nat.beq h.2.1 pc then some h.2.2 else ih) l
noncomputable def v_chk (ty : Nat → Option v_Ct) (frz : Nat → Nat → Nat → Bool) (hd : Nat → Nat → Option v_Hp) (sp : v_Hk) (rw : Nat → List v_Rw) (fuel x : Nat) (w : v_Rw) : Bool := match g_mt x with
  | none => false
  | some M => v_run (ty, w.2.2.2, frz, hd, v_hkr sp rw w.1 w.2.2.2) fuel [] w.1 x M 0 (q_args 0 (v_a0 w.2.1 0)) [] (v_e0 w.2.1, [], []) (v_kr w.2.2.1)
theorem v_chk_ok {L : Nat} {xs : Nat → Int32} {ty : Nat → Option v_Ct} {Op : v_Sf → Prop} {frz : Nat → Nat → Nat → Bool} {hd : Nat → Nat → Option v_Hp} {sp : v_Hk} {rw : Nat → List v_Rw} {fuel x : Nat} {w : v_Rw} (hf : (∀ S S' : v_Sf, (∀ a j, frz a j j = true → S' a j = S a j) → Op S → Op S') ∧ (∀ a lo hi j, frz a lo hi = false → lo ≤ j → j ≤ hi → frz a j j = false) ∧ (∀ a t, ty a = some t → a < v_N)) (hsp : ∀ S0 R0 (d' x : Nat) (as : List q_V) (A : v_A) (k : v_K), sp d' x as A k = some true → ∀ (M' : g_M) (ρ : List Int) (ac : List Value) (S : v_Sf) (R : v_Rf) (Q : Option Value → v_Sf → v_Rf → Prop), g_mt x = some M' → q_al2 (q_rv ρ) as ac → v_ra (L, xs, (ty, w.2.2.2, frz, hd, v_hkr sp rw w.1 w.2.2.2), Op, S0, R0) ρ A S R → v_KOk (L, xs, (ty, w.2.2.2, frz, hd, v_hkr sp rw w.1 w.2.2.2), Op, S0, R0) ρ k Q → v_Tm (L, xs, (ty, w.2.2.2, frz, hd, v_hkr sp rw w.1 w.2.2.2), Op, S0, R0) d' M' 0 (lv_args 0 ac) [] S R Q) (hm : ∀ x, ∀ w' ∈ rw x, w'.1 < w.1 → v_Met L xs ty Op x w') (h : v_chk ty frz hd sp rw fuel x w = true) : v_Met L xs ty Op x w := by
  intro M hM ac S R ha hT hO
  unfold v_chk at h
  rw [hM] at h
  dsimp only at h
  obtain ⟨gv, g1, g2, g3⟩ := v_a0_ok ha
  have g3 : q_al2 (q_rv gv) (v_a0 w.2.1 0) ac := g3 []
  have r3 : v_ra (L, xs, (ty, w.2.2.2, frz, hd, v_hkr sp rw w.1 w.2.2.2), Op, S, R) gv (v_e0 w.2.1, [], []) S R := by
    refine ⟨⟨g1, fun k e hk => ?_⟩, fun q hq => (by cases hq), fun q hq => (by cases hq), hT, hO, fun a j _ => ⟨rfl, rfl⟩⟩
    obtain ⟨x, k1, k2, k3, k4⟩ := g2 k e hk
    exact ⟨x, k1, k2, k3, Or.inl k4⟩
  have hX : v_XOk (L, xs, (ty, w.2.2.2, frz, hd, v_hkr sp rw w.1 w.2.2.2), Op, S, R) := hf
  have hH : v_HkOk (L, xs, (ty, w.2.2.2, frz, hd, v_hkr sp rw w.1 w.2.2.2), Op, S, R) := v_hkr_ok rfl (hsp S R) hm
  have hK : v_KOk (L, xs, (ty, w.2.2.2, frz, hd, v_hkr sp rw w.1 w.2.2.2), Op, S, R) gv (v_kr w.2.2.1) (fun r S' R' => v_Tb ty S' R' ∧ Op S' ∧ v_rk1 w.2.2.1 r ∧ v_Fr w.2.2.2 S R S' R') := by
    intro ρ' v A' r S' R' px hk ho ra
    refine ⟨ra.2.2.2.1, ra.2.2.2.2.1, ?_, ra.2.2.2.2.2⟩
    unfold v_kr at hk
    unfold v_rk1
    split at hk
    · rename_i hb
      rw [hb]
      cases r with
      | none => rfl
      | some _ => exact ho.elim
    · rename_i b a hb
      rw [hb]
      cases r with
      | none => exact ho.elim
      | some r =>
        obtain ⟨u, rfl, hu⟩ := ho
        have := v_in_ok hk (q_iv_ok ra.1 hu)
        exact ⟨u, rfl, this.1, this.2⟩
    · cases hk
  exact v_sound hX hH fuel [] w.1 x M 0 _ [] _ _ h gv (lv_args 0 ac) [] S R (v_args_ok g3 0) trivial r3 _ hK (fun o ho => by cases ho)
