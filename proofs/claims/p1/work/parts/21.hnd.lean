def q_ro (ρ : List Int) (v : Option q_V) (r : Option Value) : Prop := match v, r with
  | none, none => True
  | some v, some w => q_rv ρ v w
  | _, _ => False
/-- a road of the pure machine that the abstract one has gone: to its end, or to the stop -/
def q_Out (T : q_T) (L : Nat) (scr : List q_N) (xs : Nat → Int32) (d : Nat) (M : g_M) (pc : Nat) (lc : g_Lc) (sc : List Value) (σ : List g_Ce) (ρ : List Int) (K : q_K) : Prop :=
  (∃ n0 r σ' ρ' v A', (∀ e, g_run g_mt L xs (n0 + e) d M pc lc sc σ = some (r, σ')) ∧ q_px ρ ρ' ∧ q_ro ρ' v r ∧ q_ra ρ' scr xs A' σ' ∧ K v A' = true) ∨
  (d = T.2.1 ∧ ∃ n0 n' lc' sc' σ' ρ' ls' st' A', (∀ e, g_run g_mt L xs (n0 + e) d M pc lc sc σ = g_run g_mt L xs (n' + e) d M T.1 lc' sc' σ') ∧ q_px ρ ρ' ∧ q_rl ρ' ls' lc' ∧ q_al2 (q_rv ρ') st' sc' ∧ q_ra ρ' scr xs A' σ' ∧ T.2.2 ls' st' A' = true)
def q_Snd (T : q_T) (L : Nat) (scr : List q_N) (xs : Nat → Int32) (ih : q_Ih) : Prop :=
  ∀ (d : Nat) (M : g_M) (pc : Nat) (ls : q_L) (st : List q_V) (A : q_A) (K : q_K), d ≤ T.2.1 → ih d M pc ls st A K = true → ∀ (ρ : List Int) (lc : g_Lc) (sc : List Value) (σ : List g_Ce), q_rl ρ ls lc → q_al2 (q_rv ρ) st sc → q_ra ρ scr xs A σ → q_Out T L scr xs d M pc lc sc σ ρ K
/-- a hook tells the truth -/
def q_HkOk (T : q_T) (L : Nat) (scr : List q_N) (xs : Nat → Int32) (hk : q_Hk) : Prop :=
  ∀ (d' x : Nat) (as : List q_V) (A : q_A) (k : q_K), hk d' x as A k = some true → ∀ (M' : g_M) (ρ : List Int) (ac : List Value) (σ : List g_Ce), g_mt x = some M' → q_al2 (q_rv ρ) as ac → q_ra ρ scr xs A σ → ∃ n0 r σ' ρ' v A', (∀ e, g_run g_mt L xs (n0 + e) d' M' 0 (lv_args 0 ac) [] σ = some (r, σ')) ∧ q_px ρ ρ' ∧ q_ro ρ' v r ∧ q_ra ρ' scr xs A' σ' ∧ k v A' = true
/-- one step ahead of a road -/
theorem q_pre {T : q_T} {L : Nat} {scr : List q_N} {xs : Nat → Int32} {d : Nat} {M : g_M} {pc pc1 : Nat} {lc lc1 : g_Lc} {sc sc1 : List Value} {σ σ1 : List g_Ce} {ρ ρ1 : List Int} {K : q_K} (m : Nat) (hp : q_px ρ ρ1) (hs : ∀ e, g_run g_mt L xs (m + 1 + e) d M pc lc sc σ = g_run g_mt L xs (m + e) d M pc1 lc1 sc1 σ1) (h : q_Out T L scr xs d M pc1 lc1 sc1 σ1 ρ1 K) : q_Out T L scr xs d M pc lc sc σ ρ K := by
  have e1 : ∀ n0 e, m + 1 + (n0 + e) = (m + 1 + n0) + e := fun n0 e => by omega
  have e2 : ∀ n0 e, m + (n0 + e) = n0 + (m + e) := fun n0 e => by omega
  rcases h with ⟨n0, r, σ', ρ', v, A', a1, a2, a3, a4, a5⟩ | ⟨hd, n0, n', lc', sc', σ', ρ', ls', st', A', a1, a2, a3, a4, a5, a6⟩
  · refine Or.inl ⟨m + 1 + n0, r, σ', ρ', v, A', fun e => ?_, q_px_tr hp a2, a3, a4, a5⟩
    rw [← e1, hs, e2]
    exact a1 _
  · refine Or.inr ⟨hd, m + 1 + n0, m + n', lc', sc', σ', ρ', ls', st', A', fun e => ?_, q_px_tr hp a2, a3, a4, a5, a6⟩
    rw [← e1, hs, e2, a1, show m + n' + e = n' + (m + e) by omega]
theorem g_run_step {L : Nat} {xs : Nat → Int32} {n d : Nat} {M : g_M} {pc : Nat} {lc : g_Lc} {sc : List Value} {σ : List g_Ce} {en : g_En} {q : Nat × g_Lc × List Value × List g_Ce} (hen : M.2.2.2.2.2 pc = some en) (hs : g_step d M.2.2.2.1 L xs en pc lc sc σ = some q) : g_run g_mt L xs (n + 1) d M pc lc sc σ = g_run g_mt L xs n d M q.1 q.2.1 q.2.2.1 q.2.2.2 := by
  rw [g_run]
  simp only [hen, hs]
theorem q_go {T : q_T} {L : Nat} {scr : List q_N} {xs : Nat → Int32} {ih : q_Ih} (hS : q_Snd T L scr xs ih) {d : Nat} (hd : d ≤ T.2.1) {M : g_M} {pc : Nat} {lc : g_Lc} {sc : List Value} {σ : List g_Ce} {ρ : List Int} {K : q_K} {en : g_En} {q : Nat × g_Lc × List Value × List g_Ce} (hen : M.2.2.2.2.2 pc = some en) (hs : g_step d M.2.2.2.1 L xs en pc lc sc σ = some q) {ρ1 : List Int} (hp : q_px ρ ρ1) {ls : q_L} {st : List q_V} {A : q_A} (r1 : q_rl ρ1 ls q.2.1) (r2 : q_al2 (q_rv ρ1) st q.2.2.1) (r3 : q_ra ρ1 scr xs A q.2.2.2) (hk : ih d M q.1 ls st A K = true) : q_Out T L scr xs d M pc lc sc σ ρ K :=
  q_pre 0 hp (fun e => by rw [show 0 + 1 + e = e + 1 by omega, show 0 + e = e by omega]; exact g_run_step hen hs) (hS d M q.1 ls st A K hd hk ρ1 q.2.1 q.2.2.1 q.2.2.2 r1 r2 r3)
theorem g_st_stk {d nL L : Nat} {xs : Nat → Int32} {en : g_En} {pc : Nat} {lc : g_Lc} {sc sc' : List Value} {σ : List g_Ce} (h : g_stk en.1.1 en.2.2.2 sc = some sc') : g_step d nL L xs en pc lc sc σ = some (pc + en.1.2, lc, sc', σ) := by
  simp only [g_step, h]
theorem g_st_lcl {d nL L : Nat} {xs : Nat → Int32} {en : g_En} {pc : Nat} {lc : g_Lc} {sc : List Value} {σ : List g_Ce} {q : g_Lc × List Value} (h0 : g_stk en.1.1 en.2.2.2 sc = none) (h : g_lcl nL en.1.1 lc sc = some q) : g_step d nL L xs en pc lc sc σ = some (pc + en.1.2, q.1, q.2, σ) := by
  simp only [g_step, h0, h]
theorem g_st_jmp {d nL L : Nat} {xs : Nat → Int32} {en : g_En} {pc : Nat} {lc : g_Lc} {sc : List Value} {σ : List g_Ce} {q : Nat × List Value} (h0 : g_stk en.1.1 en.2.2.2 sc = none) (h1 : g_lcl nL en.1.1 lc sc = none) (h : g_jmp en.1.1 pc en.2.1 sc = some q) : g_step d nL L xs en pc lc sc σ = some (q.1, lc, q.2, σ) := by
  simp only [g_step, h0, h1, h]
theorem g_st_hp {d nL L : Nat} {xs : Nat → Int32} {en : g_En} {pc : Nat} {lc : g_Lc} {sc : List Value} {σ : List g_Ce} {q : List Value × List g_Ce} (h0 : g_stk en.1.1 en.2.2.2 sc = none) (h1 : g_lcl nL en.1.1 lc sc = none) (h2 : g_jmp en.1.1 pc en.2.1 sc = none) (h : g_hp d L xs en.1.1 en.2.1 en.2.2.1 sc σ = some q) : g_step d nL L xs en pc lc sc σ = some (pc + en.1.2, lc, q.1, q.2) := by
  simp only [g_step, h0, h1, h2, h]
-- shapes of related stacks
theorem q_cons {ρ : List Int} {v : q_V} {r : List q_V} {sc : List Value} (h : q_al2 (q_rv ρ) (v :: r) sc) : ∃ w t, sc = w :: t ∧ q_rv ρ v w ∧ q_al2 (q_rv ρ) r t := by
  cases sc with
  | nil => exact h.elim
  | cons w t => exact ⟨w, t, rfl, h.1, h.2⟩
theorem q_int {ρ : List Int} {a : q_N} {w : Value} (h : q_rv ρ (.inl a) w) : ∃ x : Int32, w = .int x ∧ q_r ρ a x.toInt := h
theorem q_cons_i {ρ : List Int} {a : q_N} {r : List q_V} {sc : List Value} (h : q_al2 (q_rv ρ) (.inl a :: r) sc) : ∃ (x : Int32) (t : List Value), sc = .int x :: t ∧ q_r ρ a x.toInt ∧ q_al2 (q_rv ρ) r t := by
  obtain ⟨w, t, rfl, h1, h2⟩ := q_cons h
  obtain ⟨x, rfl, h3⟩ := h1
  exact ⟨x, t, rfl, h3, h2⟩
theorem q_cons_l {ρ : List Int} {a : q_N} {r : List q_V} {sc : List Value} (h : q_al2 (q_rv ρ) (.inr (.inl a) :: r) sc) : ∃ (x : Int64) (t : List Value), sc = .long x :: t ∧ q_r ρ a x.toInt ∧ q_al2 (q_rv ρ) r t := by
  obtain ⟨w, t, rfl, h1, h2⟩ := q_cons h
  obtain ⟨x, rfl, h3⟩ := h1
  exact ⟨x, t, rfl, h3, h2⟩
theorem q_cons_r {ρ : List Int} {o : Option Nat} {r : List q_V} {sc : List Value} (h : q_al2 (q_rv ρ) (.inr (.inr o) :: r) sc) : ∃ (t : List Value), sc = va_rf o :: t ∧ q_al2 (q_rv ρ) r t := by
  obtain ⟨w, t, rfl, h1, h2⟩ := q_cons h
  have h1 : w = va_rf o := h1
  subst h1
  exact ⟨t, rfl, h2⟩
theorem q_cat {ρ : List Int} {v : q_V} {w : Value} (h : q_rv ρ v w) : w.category = q_ct v := by
  match v, h with
  | .inl a, ⟨x, h1, _⟩ => subst h1; rfl
  | .inr (.inl a), ⟨x, h1, _⟩ => subst h1; rfl
  | .inr (.inr none), h => have h : w = .null := h; subst h; rfl
  | .inr (.inr (some a)), h => have h : w = .ref a := h; subst h; rfl
theorem q_lsl_ok {ρ : List Int} : ∀ {r : List q_V} {t : List Value}, q_al2 (q_rv ρ) r t → g_cat t = q_lsl r
  | [], [], _ => rfl
  | v :: r, w :: t, ⟨h1, h2⟩ => by
    have e : g_cat (w :: t) = w.category + g_cat t := by simp [g_cat]
    rw [e, q_cat h1, q_lsl_ok h2]
    rfl
  | [], _ :: _, h => h.elim
  | _ :: _, [], h => h.elim
theorem q_lgsl_ok : ∀ (t : List Value), (lg_sl t).length = g_cat t
  | [] => rfl
  | w :: t => by
    have e : g_cat (w :: t) = w.category + g_cat t := by simp [g_cat]
    have e2 : (lg_sl (w :: t)).length = (if w.category = 2 then 2 else 1) + (lg_sl t).length := by
      simp only [lg_sl, List.flatMap_cons, List.length_append]
      split <;> simp
    rw [e, e2, q_lgsl_ok t]
    cases w <;> rfl
section QH
variable {T : q_T} {L : Nat} {scr : List q_N} {xs : Nat → Int32} {ih : q_Ih} {d : Nat} {M : g_M} {pc : Nat} {ls : q_L} {st : List q_V} {A : q_A} {K : q_K} {ρ : List Int} {lc : g_Lc} {sc : List Value} {σ : List g_Ce} {ins : Instr} {len x y : Nat} {z : Int}
theorem q_ra_env (h : q_ra ρ scr xs A σ) {ρ1 : List Int} (hp : q_px ρ ρ1) {e : q_S} (he : q_re ρ1 e) : q_ra ρ1 scr xs (e, A.2) σ := ⟨he, q_rh_px hp h.2.1, q_rs_px hp h.2.2⟩
/-- stack instructions -/
theorem q_stk {st' : List q_V} {A' : q_A} {sc' : List Value} {ρ1 : List Int} (hS : q_Snd T L scr xs ih) (hd : d ≤ T.2.1) (hen : M.2.2.2.2.2 pc = some ((ins, len), x, y, z)) (r1 : q_rl ρ ls lc) (hp : q_px ρ ρ1) (r2 : q_al2 (q_rv ρ1) st' sc') (r3 : q_ra ρ1 scr xs A' σ) (hs : g_stk ins z sc = some sc') (hk : ih d M (pc + len) ls st' A' K = true) : q_Out T L scr xs d M pc lc sc σ ρ K :=
  q_go hS hd hen (g_st_stk (en := ((ins, len), x, y, z)) hs) hp (q_rl_px hp r1) r2 r3 hk
theorem q_i2_ok {op : Nat} (hop : op ≠ 0) (hS : q_Snd T L scr xs ih) (hd : d ≤ T.2.1) (hen : M.2.2.2.2.2 pc = some ((ins, len), x, y, z)) (r1 : q_rl ρ ls lc) (r2 : q_al2 (q_rv ρ) st sc) (r3 : q_ra ρ scr xs A σ) (hs : ∀ sc, g_stk ins z sc = g_i2 (q_F op) sc) (h : q_i2 op st A (fun st A => ih d M (pc + len) ls st A K) = true) : q_Out T L scr xs d M pc lc sc σ ρ K := by
  unfold q_i2 at h
  split at h
  · rename_i b a r
    obtain ⟨yv, t, rfl, hb, r4⟩ := q_cons_i r2
    obtain ⟨xv, t, rfl, ha, r5⟩ := q_cons_i r4
    obtain ⟨ρ1, e1, v, p1, p2, p3, p4⟩ := q_bin_ok r3.1 hop ha hb h
    exact q_stk hS hd hen r1 p1 (st' := .inl v :: r) (A' := (e1, A.2)) (sc' := .int (q_F op xv yv) :: t) ⟨⟨_, rfl, p3⟩, q_st_px p1 r5⟩ (q_ra_env r3 p1 p2) (by rw [hs]; rfl) p4
  · cases h
theorem q_d2_ok {op : Nat} (hop : op ≠ 0) (hS : q_Snd T L scr xs ih) (hd : d ≤ T.2.1) (hen : M.2.2.2.2.2 pc = some ((ins, len), x, y, z)) (r1 : q_rl ρ ls lc) (r2 : q_al2 (q_rv ρ) st sc) (r3 : q_ra ρ scr xs A σ) (hs : ∀ sc, g_stk ins z sc = g_d2 (q_F op) sc) (h : q_d2 op st A (fun st A => ih d M (pc + len) ls st A K) = true) : q_Out T L scr xs d M pc lc sc σ ρ K := by
  unfold q_d2 at h
  split at h
  · rename_i b a r
    obtain ⟨yv, t, rfl, hb, r4⟩ := q_cons_i r2
    obtain ⟨xv, t, rfl, ha, r5⟩ := q_cons_i r4
    rcases q_eq_ok r3.1 hb (b := .inl 0) (y := 0) rfl h with ⟨-, e1, -, h2⟩ | ⟨hne, e1, he1, h2⟩
    · cases h2
    · obtain ⟨ρ1, e2, v, p1, p2, p3, p4⟩ := q_bin_ok he1 hop ha hb h2
      have hy : ¬ yv = 0 := fun e => hne (by rw [e]; rfl)
      exact q_stk hS hd hen r1 p1 (st' := .inl v :: r) (A' := (e2, A.2)) (sc' := .int (q_F op xv yv) :: t) ⟨⟨_, rfl, p3⟩, q_st_px p1 r5⟩ (q_ra_env r3 p1 p2) (by rw [hs]; simp only [g_d2, if_neg hy]) p4
  · cases h
theorem q_u1_ok {lo hi : Int} {f : Int32 → Int32} (hf : ∀ w : Int32, lo ≤ (f w).toInt ∧ (f w).toInt ≤ hi) (hS : q_Snd T L scr xs ih) (hd : d ≤ T.2.1) (hen : M.2.2.2.2.2 pc = some ((ins, len), x, y, z)) (r1 : q_rl ρ ls lc) (r2 : q_al2 (q_rv ρ) st sc) (r3 : q_ra ρ scr xs A σ) (hs : ∀ sc, g_stk ins z sc = g_i1 (fun w => .int (f w)) sc) (h : q_u1 lo hi f st A (fun st A => ih d M (pc + len) ls st A K) = true) : q_Out T L scr xs d M pc lc sc σ ρ K := by
  unfold q_u1 at h
  split at h
  · rename_i a r
    obtain ⟨xv, t, rfl, ha, r4⟩ := q_cons_i r2
    split at h
    · rename_i c hc
      have e := q_c_ok r3.1 ha hc
      refine q_stk hS hd hen r1 (q_px_rf ρ) (st' := .inl (.inl (f (Int32.ofInt c)).toInt) :: r) (A' := A) (sc' := .int (f xv) :: t) ⟨⟨_, rfl, ?_⟩, r4⟩ r3 (by rw [hs]; rfl) h
      show (f xv).toInt = _
      rw [← e, q_of]
    · obtain ⟨n1, n2, n3⟩ := q_new_ok r3.1 (e := (lo, hi, 0, .inl 0, .inl 0)) (hf xv).1 (hf xv).2 (Or.inl rfl)
      exact q_stk hS hd hen r1 n1 (st' := .inl _ :: r) (A' := (_, A.2)) (sc' := .int (f xv) :: t) ⟨⟨_, rfl, n3⟩, q_st_px n1 r4⟩ (q_ra_env r3 n1 n2) (by rw [hs]; rfl) h
  · cases h
theorem q_const_ok {v : q_V} {w : Value} (hv : q_rv ρ v w) (hS : q_Snd T L scr xs ih) (hd : d ≤ T.2.1) (hen : M.2.2.2.2.2 pc = some ((ins, len), x, y, z)) (r1 : q_rl ρ ls lc) (r2 : q_al2 (q_rv ρ) st sc) (r3 : q_ra ρ scr xs A σ) (hs : g_stk ins z sc = some (w :: sc)) (h : ih d M (pc + len) ls (v :: st) A K = true) : q_Out T L scr xs d M pc lc sc σ ρ K :=
  q_stk hS hd hen r1 (q_px_rf ρ) (st' := v :: st) (A' := A) (sc' := w :: sc) ⟨hv, r2⟩ r3 hs h
theorem q_cm_ok (hS : q_Snd T L scr xs ih) (hd : d ≤ T.2.1) (hen : M.2.2.2.2.2 pc = some ((.lcmp, len), x, y, z)) (r1 : q_rl ρ ls lc) (r2 : q_al2 (q_rv ρ) st sc) (r3 : q_ra ρ scr xs A σ) (h : q_cm st A (fun st A => ih d M (pc + len) ls st A K) = true) : q_Out T L scr xs d M pc lc sc σ ρ K := by
  unfold q_cm at h
  split at h
  · rename_i b a r
    obtain ⟨yv, t, rfl, hb, r4⟩ := q_cons_l r2
    obtain ⟨xv, t, rfl, ha, r5⟩ := q_cons_l r4
    have key : ∀ (c : Int) (e : q_S), q_re ρ e → ih d M (pc + len) ls (.inl (.inl c) :: r) (e, A.2) K = true → c = (lg_cmp xv yv).toInt → q_Out T L scr xs d M pc lc (.long yv :: .long xv :: t) σ ρ K := by
      intro c e he hk hc
      exact q_stk hS hd hen r1 (q_px_rf ρ) (st' := .inl (.inl c) :: r) (A' := (e, A.2)) (sc' := .int (lg_cmp xv yv) :: t) ⟨⟨_, rfl, hc.symm⟩, r5⟩ (q_ra_env r3 (q_px_rf ρ) he) rfl hk
    rcases q_lt_ok r3.1 hb ha h with ⟨h1, e1, he1, h2⟩ | ⟨h1, e1, he1, h2⟩
    · refine key 1 e1 he1 h2 ?_
      have : xv > yv := Int64.lt_iff_toInt_lt.mpr h1
      simp [lg_cmp, this]
    · have hn : ¬ xv > yv := fun hh => by have := Int64.lt_iff_toInt_lt.mp hh; omega
      rcases q_eq_ok he1 ha hb h2 with ⟨h3, e2, he2, h4⟩ | ⟨h3, e2, he2, h4⟩
      · refine key 0 e2 he2 h4 ?_
        have : xv = yv := Int64.toInt_inj.mp h3
        subst this
        simp [lg_cmp]
      · refine key (-1) e2 he2 h4 ?_
        have : ¬ xv = yv := fun hh => h3 (by rw [hh])
        simp [lg_cmp, hn, this]
  · cases h
end QH
