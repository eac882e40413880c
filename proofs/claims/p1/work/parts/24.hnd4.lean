theorem q_tk_ok {ρ : List Int} {k : List q_V → List q_V → Bool} : ∀ (m : Nat) (acc r : List q_V) (accc rc : List Value), q_al2 (q_rv ρ) acc accc → q_al2 (q_rv ρ) r rc → Nat.rec (motive := fun _ => List q_V → List q_V → Bool) (fun acc r => k acc r) (fun _ ih acc r => match r with
  | [] => false
  | h :: t => ih (h :: acc) t) m acc r = true → ∃ as r', m ≤ rc.length ∧ q_al2 (q_rv ρ) as ((rc.take m).reverse ++ accc) ∧ q_al2 (q_rv ρ) r' (rc.drop m) ∧ k as r' = true
  | 0, acc, r, accc, rc, h1, h2, h => ⟨acc, r, Nat.zero_le _, by simpa using h1, by simpa using h2, h⟩
  | m + 1, acc, r, accc, rc, h1, h2, h => by
    cases r with
    | nil => cases h
    | cons v r =>
      cases rc with
      | nil => exact h2.elim
      | cons w rc =>
        obtain ⟨as, r', g1, g2, g3, g4⟩ := q_tk_ok m (v :: acc) r (w :: accc) rc ⟨h2.1, h1⟩ h2.2 h
        refine ⟨as, r', by simp; omega, ?_, by simpa using g3, g4⟩
        simpa using g2
theorem q_args_ok {ρ : List Int} : ∀ {as : List q_V} {ac : List Value} (_ : q_al2 (q_rv ρ) as ac) (i : Nat), q_rl ρ (q_args i as) (lv_args i ac)
  | [], [], _, _ => trivial
  | v :: s, w :: t, ⟨h1, h2⟩, i => by
    refine And.intro ⟨rfl, h1⟩ ?_
    have e : (if w.category = 2 then i + 2 else i + 1) = i + q_ct v := by
      rw [q_cat h1]
      match v with
      | .inl _ => rfl
      | .inr (.inl _) => rfl
      | .inr (.inr _) => rfl
    rw [e]
    exact q_args_ok h2 _
  | [], _ :: _, h, _ => h.elim
  | _ :: _, [], h, _ => h.elim
theorem g_run_call {L : Nat} {xs : Nat → Int32} {n d' : Nat} {M M' : g_M} {pc : Nat} {lc : g_Lc} {sc : List Value} {σ : List g_Ce} {ins : Instr} {len x y k : Nat} {z : Int} {q : List Value × List Value} {w : Option Value × List g_Ce} (hen : M.2.2.2.2.2 pc = some ((ins, len), x, y, z)) (h0 : g_step (d' + 1) M.2.2.2.1 L xs ((ins, len), x, y, z) pc lc sc σ = none) (h1 : g_rt ins M.2.2.2.2.1 sc = none) (h2 : g_ki ins = some k) (h3 : (x == 99999) = false) (h4 : g_mt x = some M') (h5 : g_cl k y M'.1 sc σ = some q) (h6 : g_cat q.2 ≤ 8) (h7 : (lg_sl q.1).length ≤ M'.2.2.2.1) (h8 : g_run g_mt L xs n d' M' 0 (lv_args 0 q.1) [] σ = some w) : g_run g_mt L xs (n + 1) (d' + 1) M pc lc sc σ = g_run g_mt L xs n (d' + 1) M (pc + 3) lc (w.1.toList ++ q.2) w.2 := by
  rw [g_run]
  have e6 : decide (g_cat q.2 ≤ 8) = true := by simpa using h6
  have e7 : decide ((lg_sl q.1).length ≤ M'.2.2.2.1) = true := by simpa using h7
  simp only [hen, h0, h1, h2, h3, h4, h5, e6, e7, h8, cond_false, cond_true, Bool.and_self]
theorem g_run_ret {L : Nat} {xs : Nat → Int32} {n d : Nat} {M : g_M} {pc : Nat} {lc : g_Lc} {sc : List Value} {σ : List g_Ce} {en : g_En} {r : Option Value} (hen : M.2.2.2.2.2 pc = some en) (h0 : g_step d M.2.2.2.1 L xs en pc lc sc σ = none) (h1 : g_rt en.1.1 M.2.2.2.2.1 sc = some r) : g_run g_mt L xs (n + 1) d M pc lc sc σ = some (r, σ) := by
  rw [g_run]
  simp only [hen, h0, h1]
theorem g_run_oi {L : Nat} {xs : Nat → Int32} {n d' : Nat} {M : g_M} {pc : Nat} {lc : g_Lc} {sc rest : List Value} {σ : List g_Ce} {ins : Instr} {len x y k : Nat} {z : Int} (hen : M.2.2.2.2.2 pc = some ((ins, len), x, y, z)) (h0 : g_step (d' + 1) M.2.2.2.1 L xs ((ins, len), x, y, z) pc lc sc σ = none) (h1 : g_rt ins M.2.2.2.2.1 sc = none) (h2 : g_ki ins = some k) (h3 : (x == 99999) = true) (h4 : g_oi k sc = some rest) : g_run g_mt L xs (n + 1) (d' + 1) M pc lc sc σ = g_run g_mt L xs n (d' + 1) M (pc + 3) lc rest σ := by
  rw [g_run]
  simp only [hen, h0, h1, h2, h3, h4, cond_true]
theorem g_nv_none {d x : Nat} {st : List Value} {σ : List g_Ce} (h : x < 77777) : g_nv d x st σ = none := by
  have b1 : (x == 99998) = false := by simp; omega
  have b2 : (x == 99997) = false := by simp; omega
  have b3 : (x == 99996) = false := by simp; omega
  have b4 : (x == 99995) = false := by simp; omega
  simp only [g_nv, b1, b2, b3, b4, cond_false]
section QQ
variable {T : q_T} {L : Nat} {scr : List q_N} {xs : Nat → Int32} {ih : q_Ih} {d : Nat} {M : g_M} {pc : Nat} {ls : q_L} {st : List q_V} {A : q_A} {K : q_K} {ρ : List Int} {lc : g_Lc} {sc : List Value} {σ : List g_Ce} {ins : Instr} {len x y : Nat} {z : Int}
/-- a call: the callee's road, then the caller's -/
theorem q_call {hk : q_Hk} (hH : q_HkOk T L scr xs hk) {kd d' : Nat} {M' : g_M} {as r : List q_V} {q : List Value × List Value} (hS : q_Snd T L scr xs ih) (hd : d' + 1 ≤ T.2.1) (hen : M.2.2.2.2.2 pc = some ((ins, len), x, y, z)) (r1 : q_rl ρ ls lc) (r3 : q_ra ρ scr xs A σ) (h0 : g_step (d' + 1) M.2.2.2.1 L xs ((ins, len), x, y, z) pc lc sc σ = none) (h1 : g_rt ins M.2.2.2.2.1 sc = none) (h2 : g_ki ins = some kd) (hx : x < 77777) (hM' : g_mt x = some M') (h5 : g_cl kd y M'.1 sc σ = some q) (ra : q_al2 (q_rv ρ) as q.1) (rr : q_al2 (q_rv ρ) r q.2) (hc1 : q_lsl r ≤ 8) (hc2 : q_lsl as ≤ M'.2.2.2.1)
    (h : q_ivc hk ih d' x M' A as (fun v A' => ih (Nat.succ d') M (pc + 3) ls (q_pr v r) A' K) = true) : q_Out T L scr xs (d' + 1) M pc lc sc σ ρ K := by
  have key : ∃ n0 rv σ1 ρ1 v A1, (∀ e, g_run g_mt L xs (n0 + e) d' M' 0 (lv_args 0 q.1) [] σ = some (rv, σ1)) ∧ q_px ρ ρ1 ∧ q_ro ρ1 v rv ∧ q_ra ρ1 scr xs A1 σ1 ∧ ih (Nat.succ d') M (pc + 3) ls (q_pr v r) A1 K = true := by
    unfold q_ivc at h
    split at h
    · rename_i bb hb
      subst h
      exact hH d' x as A _ hb M' ρ q.1 σ hM' ra r3
    · rcases hS d' M' 0 (q_args 0 as) [] A _ (by omega) h ρ (lv_args 0 q.1) [] σ (q_args_ok ra 0) trivial r3 with hh | ⟨hh, -⟩
      · exact hh
      · omega
  obtain ⟨n0, rv, σ1, ρ1, v, A1, a1, a2, a3, a4, a5⟩ := key
  have rr2 : q_al2 (q_rv ρ1) (q_pr v r) (rv.toList ++ q.2) := by
    match v, rv, a3 with
    | none, none, _ => exact q_st_px a2 rr
    | some v, some w, a3 => exact And.intro a3 (q_st_px a2 rr)
    | none, some w, a3 => exact a3.elim
    | some v, none, a3 => exact a3.elim
  have hx9 : (x == 99999) = false := by simp; omega
  refine q_pre n0 a2 (fun e => ?_) (hS (d' + 1) M (pc + 3) ls _ A1 K hd a5 ρ1 lc (rv.toList ++ q.2) σ1 (q_rl_px a2 r1) rr2 a4)
  rw [show n0 + 1 + e = n0 + e + 1 by omega]
  exact g_run_call hen h0 h1 h2 hx9 hM' h5 (by rw [q_lsl_ok rr]; exact hc1) (by rw [q_lgsl_ok, q_lsl_ok ra]; exact hc2) (a1 e)
theorem q_cn (k : Nat) (q : vw_C) (hk : k < 13) (h : vwCl[k]? = some q) : q.1 = g_cn k := by
  match k, h with
  | 0, h => cases h; rfl
  | 1, h => cases h; rfl
  | 2, h => cases h; rfl
  | 3, h => cases h; rfl
  | 4, h => cases h; rfl
  | 5, h => cases h; rfl
  | 6, h => cases h; rfl
  | 7, h => cases h; rfl
  | 8, h => cases h; rfl
  | 9, h => cases h; rfl
  | 10, h => cases h; rfl
  | 11, h => cases h; rfl
  | 12, h => cases h; rfl
  | m + 13, h => omega
theorem q_vw (k : Nat) (hk : k < 13) : ∃ q, vwCl[k]? = some q := by
  match k, hk with
  | 0, _ => exact ⟨_, rfl⟩
  | 1, _ => exact ⟨_, rfl⟩
  | 2, _ => exact ⟨_, rfl⟩
  | 3, _ => exact ⟨_, rfl⟩
  | 4, _ => exact ⟨_, rfl⟩
  | 5, _ => exact ⟨_, rfl⟩
  | 6, _ => exact ⟨_, rfl⟩
  | 7, _ => exact ⟨_, rfl⟩
  | 8, _ => exact ⟨_, rfl⟩
  | 9, _ => exact ⟨_, rfl⟩
  | 10, _ => exact ⟨_, rfl⟩
  | 11, _ => exact ⟨_, rfl⟩
  | 12, _ => exact ⟨_, rfl⟩
  | m + 13, h => omega
theorem q_ivk_ok {hk : q_Hk} (hH : q_HkOk T L scr xs hk) {kd : Nat} (hS : q_Snd T L scr xs ih) (hd : d ≤ T.2.1) (hen : M.2.2.2.2.2 pc = some ((ins, len), x, y, z)) (r1 : q_rl ρ ls lc) (r2 : q_al2 (q_rv ρ) st sc) (r3 : q_ra ρ scr xs A σ) (h0 : ∀ d', g_step (d' + 1) M.2.2.2.1 L xs ((ins, len), x, y, z) pc lc sc σ = none) (h1 : g_rt ins M.2.2.2.2.1 sc = none) (h2 : g_ki ins = some kd) (hx : x < 77777) (h : q_ivk hk ih kd d M pc ls x y st A K = true) : q_Out T L scr xs d M pc lc sc σ ρ K := by
  unfold q_ivk at h
  split at h
  · cases h
  · rename_i M' hM'
    split at h
    · cases h
    · rename_i d'
      obtain ⟨as, r, g1, g2, g3, g4⟩ := q_tk_ok (k := _) y [] st [] sc trivial r2 h
      rw [List.append_nil] at g2
      have hy : decide (y ≤ sc.length) = true := by simpa using g1
      cases hk0 : Nat.beq kd 0 with
      | true =>
        rw [hk0] at g4
        have e0 := q_beq hk0
        subst e0
        dsimp only [cond_true] at g4
        unfold q_ivs at g4
        cases hc : (Nat.ble (q_lsl r) 8 && Nat.ble (q_lsl as) M'.2.2.2.1) with
        | false => rw [hc] at g4; cases g4
        | true =>
          rw [hc] at g4
          rw [Bool.and_eq_true, Nat.ble_eq, Nat.ble_eq] at hc
          have e5 : g_cl 0 y M'.1 sc σ = some ((sc.take y).reverse, sc.drop y) := by
            simp only [g_cl, hy, cond_true]
          exact q_call hH hS hd hen r1 r3 (h0 d') h1 h2 hx hM' e5 g2 g3 hc.1 hc.2 g4
      | false =>
        rw [hk0] at g4
        dsimp only [cond_false] at g4
        unfold q_ivr at g4
        split at g4
        · rename_i a r2'
          obtain ⟨t, ht, r5⟩ := q_cons_r g3
          cases hr : (bif Nat.beq kd 1 then Nat.blt a A.2.1 && q_rcv A a x else true) with
          | false => rw [hr] at g4; cases g4
          | true =>
            rw [hr] at g4
            dsimp only [cond_true] at g4
            unfold q_ivs at g4
            cases hc : (Nat.ble (q_lsl r2') 8 && Nat.ble (q_lsl (.inr (.inr (some (Nat.succ a))) :: as)) M'.2.2.2.1) with
            | false => rw [hc] at g4; cases g4
            | true =>
              rw [hc] at g4
              rw [Bool.and_eq_true, Nat.ble_eq, Nat.ble_eq] at hc
              have ra : q_al2 (q_rv ρ) (.inr (.inr (some (Nat.succ a))) :: as) (.ref (a + 1) :: (sc.take y).reverse) := And.intro rfl g2
              have e5 : g_cl kd y M'.1 sc σ = some (.ref (a + 1) :: (sc.take y).reverse, t) := by
                have hd : sc.drop y = .ref (a + 1) :: t := ht
                match kd, hk0, hr with
                | 0, hk0, _ => cases hk0
                | 1, _, hr =>
                  have hr : (Nat.blt a A.2.1 && q_rcv A a x) = true := hr
                  rw [Bool.and_eq_true] at hr
                  obtain ⟨c4, c5⟩ := hr
                  unfold q_rcv at c5
                  split at c5
                  · rename_i ci fs hg
                    obtain ⟨e, k1, gs, rfl, k2⟩ := q_at_h r3.2.1 c4 hg
                    split at c5
                    · rename_i o ho
                      rw [Bool.and_eq_true] at c5
                      have hci := q_blt c5.2
                      obtain ⟨qc, hqc⟩ := q_vw ci hci
                      rw [q_nth_eq] at ho
                      have hcn : qc.1 = M'.1 := by
                        rw [q_cn ci qc hci hqc, g_oc_ok x o M' hM' ho, q_beq c5.1]
                      simp only [g_cl, hd, k1, hqc]
                      rw [if_pos ⟨hcn, g1⟩]
                    · cases c5
                  · cases c5
                | m + 2, _, _ => simp only [g_cl, hd, hy, cond_true]
              exact q_call hH hS hd hen r1 r3 (h0 d') h1 h2 hx hM' e5 ra r5 hc.1 hc.2 g4
        · cases g4
theorem q_rt_ok (hS : q_Snd T L scr xs ih) (hd : d ≤ T.2.1) (hen : M.2.2.2.2.2 pc = some ((ins, len), x, y, z)) (r1 : q_rl ρ ls lc) (r2 : q_al2 (q_rv ρ) st sc) (r3 : q_ra ρ scr xs A σ) (h0 : g_step d M.2.2.2.1 L xs ((ins, len), x, y, z) pc lc sc σ = none) (h : q_rt ins M.2.2.2.2.1 st A K = true) : q_Out T L scr xs d M pc lc sc σ ρ K := by
  have fin : ∀ (v : Option q_V) (r : Option Value), g_rt ins M.2.2.2.2.1 sc = some r → q_ro ρ v r → K v A = true → q_Out T L scr xs d M pc lc sc σ ρ K := fun v r hr ho hk => Or.inl ⟨1, r, σ, ρ, v, A, fun e => by rw [show 1 + e = e + 1 by omega]; exact g_run_ret hen h0 hr, q_px_rf ρ, ho, r3, hk⟩
  unfold q_rt at h
  generalize M.2.2.2.2.1 = ret at h fin
  split at h
  · rename_i v
    obtain ⟨w, t, rfl, hw, r4⟩ := q_cons_i r2
    cases t with
    | cons _ _ => exact r4.elim
    | nil => exact fin (some (.inl v)) (some (.int w)) rfl ⟨_, rfl, hw⟩ h
  · rename_i v
    obtain ⟨w, t, rfl, hw, r4⟩ := q_cons_i r2
    cases t with
    | cons _ _ => exact r4.elim
    | nil =>
      have hi := q_iv_ok r3.1 hw
      cases hx : (q_ile 0 (q_iv A.1 v).1 && q_ile (q_iv A.1 v).2 1) with
      | false => rw [hx] at h; cases h
      | true =>
        rw [hx] at h
        rw [Bool.and_eq_true, q_ile_ok, q_ile_ok] at hx
        have hn : narrow .boolean (.int w) = .int w := by
          have : w.toInt = 0 ∨ w.toInt = 1 := by omega
          rcases this with e | e
          · have : w = 0 := q_inj (by rw [e]; rfl)
            subst this
            rfl
          · have : w = 1 := q_inj (by rw [e]; rfl)
            subst this
            rfl
        refine fin (some (.inl v)) (some (.int w)) ?_ ⟨_, rfl, hw⟩ h
        simp only [g_rt]
        rw [if_pos hn]
  · rename_i v
    obtain ⟨t, rfl, r4⟩ := q_cons_r r2
    cases t with
    | cons _ _ => exact r4.elim
    | nil =>
      cases v with
      | none => exact fin (some (.inr (.inr none))) (some .null) rfl rfl h
      | some a => exact fin (some (.inr (.inr (some a)))) (some (.ref a)) rfl rfl h
  · cases sc with
    | cons _ _ => exact r2.elim
    | nil => exact fin none none rfl trivial h
  · cases h
theorem q_ts_ok {a : q_N} {r : List q_V} {v : Int32} {t : List Value} (ha : q_r ρ a v.toInt) (r4 : q_al2 (q_rv ρ) r t) (r3 : q_ra ρ scr xs A σ) {df : Int} {k : Nat → List q_V → q_A → Bool} : ∀ (offs : List Int) (c : Int) (e : q_S), q_re ρ e → List.rec (motive := fun _ => Int → q_S → Bool) (fun _ e => k ((pc : Int) + df).toNat r (e, A.2)) (fun o _ ih c e => q_eq a (.inl c) e (fun e => k ((pc : Int) + o).toNat r (e, A.2)) (fun e => ih (c + 1) e)) offs c e = true → (∃ o e', q_re ρ e' ∧ c ≤ v.toInt ∧ offs[(v.toInt - c).toNat]? = some o ∧ k ((pc : Int) + o).toNat r (e', A.2) = true) ∨ ((v.toInt < c ∨ c + offs.length ≤ v.toInt) ∧ ∃ e', q_re ρ e' ∧ k ((pc : Int) + df).toNat r (e', A.2) = true)
  | [], c, e, he, h => Or.inr ⟨by simp; omega, e, he, h⟩
  | o :: offs, c, e, he, h => by
    have h : q_eq a (.inl c) e (fun e => k ((pc : Int) + o).toNat r (e, A.2)) (fun e => List.rec (motive := fun _ => Int → q_S → Bool) (fun _ e => k ((pc : Int) + df).toNat r (e, A.2)) (fun o _ ih c e => q_eq a (.inl c) e (fun e => k ((pc : Int) + o).toNat r (e, A.2)) (fun e => ih (c + 1) e)) offs (c + 1) e) = true := h
    rcases q_eq_ok he ha (b := .inl c) (y := c) rfl h with ⟨h1, e1, he1, h2⟩ | ⟨h1, e1, he1, h2⟩
    · refine Or.inl ⟨o, e1, he1, by omega, ?_, h2⟩
      have : (v.toInt - c).toNat = 0 := by omega
      rw [this]
      rfl
    · rcases q_ts_ok ha r4 r3 offs (c + 1) e1 he1 h2 with ⟨o2, e2, he2, g1, g2, g3⟩ | ⟨g1, e2, he2, g3⟩
      · refine Or.inl ⟨o2, e2, he2, by omega, ?_, g3⟩
        have : (v.toInt - c).toNat = (v.toInt - (c + 1)).toNat + 1 := by omega
        rw [this]
        simpa using g2
      · refine Or.inr ⟨?_, e2, he2, g3⟩
        simp only [List.length_cons]
        omega
theorem q_tsw_ok {df lo hi : Int} {offs : Array Int} (hS : q_Snd T L scr xs ih) (hd : d ≤ T.2.1) (hen : M.2.2.2.2.2 pc = some ((.tableswitch df lo hi offs, len), x, y, z)) (r1 : q_rl ρ ls lc) (r2 : q_al2 (q_rv ρ) st sc) (r3 : q_ra ρ scr xs A σ) {hk : q_Hk} (h : q_h_tableswitch df lo hi offs L scr hk ih d M pc len x y z ls st A K = true) : q_Out T L scr xs d M pc lc sc σ ρ K := by
  unfold q_h_tableswitch at h
  split at h
  · rename_i a r
    obtain ⟨v, t, rfl, ha, r4⟩ := q_cons_i r2
    cases hc : (q_ieq hi (lo + (q_len offs.toList : Int) - 1) && ((offs.toList).all (fun o => q_ile 0 ((pc : Int) + o)) && q_ile 0 ((pc : Int) + df))) with
    | false => rw [hc] at h; cases h
    | true =>
      rw [hc] at h
      rw [Bool.and_eq_true, Bool.and_eq_true, q_ieq_ok, q_ile_ok, q_len_eq] at hc
      obtain ⟨c1, c2, c3⟩ := hc
      have tg : ∀ o : Int, 0 ≤ (pc : Int) + o → ∀ rr, g_tg pc (some o) rr = some (((pc : Int) + o).toNat, rr) := by
        intro o ho rr
        unfold g_tg
        dsimp only
        generalize (pc : Int) + o = w at ho
        cases w with
        | ofNat m => rfl
        | negSucc m => omega
      dsimp only [cond_true] at h
      rcases q_ts_ok (pc := pc) (df := df) (k := fun pc r A => ih d M pc ls r A K) ha r4 r3 offs.toList lo A.1 r3.1 h with ⟨o, e, he, g1, g2, g3⟩ | ⟨g1, e, he, g3⟩
      · have hlt := (List.getElem?_eq_some_iff.mp g2).1
        have ho : 0 ≤ (pc : Int) + o := by
          have := List.all_eq_true.mp c2 o (List.mem_of_getElem? g2)
          rwa [q_ile_ok] at this
        refine q_go hS hd hen (g_st_jmp (en := ((.tableswitch df lo hi offs, len), x, y, z)) (q := (((pc : Int) + o).toNat, t)) rfl rfl ?_) (q_px_rf ρ) r1 r4 (q_ra_env r3 (q_px_rf ρ) he) g3
        have hn : ¬ (v.toInt < lo ∨ hi < v.toInt) := by omega
        have g2' : offs[(v.toInt - lo).toNat]? = some o := by rw [← Array.getElem?_toList]; exact g2
        simp only [g_jmp, if_neg hn, g2']
        exact tg o ho t
      · refine q_go hS hd hen (g_st_jmp (en := ((.tableswitch df lo hi offs, len), x, y, z)) (q := (((pc : Int) + df).toNat, t)) rfl rfl ?_) (q_px_rf ρ) r1 r4 (q_ra_env r3 (q_px_rf ρ) he) g3
        have hn : v.toInt < lo ∨ hi < v.toInt := by omega
        simp only [g_jmp, if_pos hn]
        exact tg df c3 t
  · cases h
end QQ
