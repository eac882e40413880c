section VH
variable {X : v_X} {ih : v_Ih} {O : List v_Oe} {d μ : Nat} {M : g_M} {pc : Nat} {ls : q_L} {st : List q_V} {A : v_A} {K : v_K} {ρ : List Int} {lc : g_Lc} {sc : List Value} {S : v_Sf} {R : v_Rf} {ins : Instr} {len x y : Nat} {z : Int}
theorem v_stk {st' : List q_V} {A' : v_A} {sc' : List Value} {ρ1 : List Int} (hS : v_Snd X ih) (hen : M.2.2.2.2.2 pc = some ((ins, len), x, y, z)) (r1 : v_rl ρ ls lc) (hp : q_px ρ ρ1) (r2 : q_al2 (q_rv ρ1) st' sc') (r3 : v_ra X ρ1 A' S R) (hs : g_stk ins z sc = some sc') (hk : ih O d μ M (pc + len) ls st' A' K = true) : v_Out X O d M pc lc sc S R ρ K :=
  v_go hS hen (g_st_stk (en := ((ins, len), x, y, z)) hs) hp (v_rl_px hp r1) r2 r3 hk
theorem v_i2_ok {op : Nat} (hop : op ≠ 0) (hS : v_Snd X ih) (hen : M.2.2.2.2.2 pc = some ((ins, len), x, y, z)) (r1 : v_rl ρ ls lc) (r2 : q_al2 (q_rv ρ) st sc) (r3 : v_ra X ρ A S R) (hs : ∀ sc, g_stk ins z sc = g_i2 (q_F op) sc) (h : v_i2 op st A (fun st A => ih O d μ M (pc + len) ls st A K) = true) : v_Out X O d M pc lc sc S R ρ K := by
  unfold v_i2 at h
  split at h
  · rename_i b a r
    obtain ⟨yv, t, rfl, hb, r4⟩ := q_cons_i r2
    obtain ⟨xv, t, rfl, ha, r5⟩ := q_cons_i r4
    obtain ⟨ρ1, e1, v, p1, p2, p3, p4⟩ := v_bin_ok r3.1 hop ha hb h
    exact v_stk hS hen r1 p1 (st' := .inl v :: r) (A' := (e1, A.2)) (sc' := .int (q_F op xv yv) :: t) ⟨⟨_, rfl, p3⟩, q_st_px p1 r5⟩ (v_ra_env r3 p1 p2) (by rw [hs]; rfl) p4
  · cases h
theorem v_u1_ok {lo hi : Int} {f : Int32 → Int32} (hf : ∀ w : Int32, lo ≤ (f w).toInt ∧ (f w).toInt ≤ hi) (hS : v_Snd X ih) (hen : M.2.2.2.2.2 pc = some ((ins, len), x, y, z)) (r1 : v_rl ρ ls lc) (r2 : q_al2 (q_rv ρ) st sc) (r3 : v_ra X ρ A S R) (hs : ∀ sc, g_stk ins z sc = g_i1 (fun w => .int (f w)) sc) (h : v_u1 lo hi f st A (fun st A => ih O d μ M (pc + len) ls st A K) = true) : v_Out X O d M pc lc sc S R ρ K := by
  unfold v_u1 at h
  split at h
  · rename_i a r
    obtain ⟨xv, t, rfl, ha, r4⟩ := q_cons_i r2
    split at h
    · rename_i c hc
      have e := q_c_ok r3.1 ha hc
      refine v_stk hS hen r1 (q_px_rf ρ) (st' := .inl (.inl (f (Int32.ofInt c)).toInt) :: r) (A' := A) (sc' := .int (f xv) :: t) ⟨⟨_, rfl, ?_⟩, r4⟩ r3 (by rw [hs]; rfl) h
      show (f xv).toInt = _
      rw [← e, q_of]
    · obtain ⟨n1, n2, n3⟩ := q_new_ok r3.1 (e := (lo, hi, 0, .inl 0, .inl 0)) (hf xv).1 (hf xv).2 (Or.inl rfl)
      exact v_stk hS hen r1 n1 (st' := .inl _ :: r) (A' := (_, A.2)) (sc' := .int (f xv) :: t) ⟨⟨_, rfl, n3⟩, q_st_px n1 r4⟩ (v_ra_env r3 n1 n2) (by rw [hs]; rfl) h
  · cases h
theorem v_const_ok {v : q_V} {w : Value} (hv : q_rv ρ v w) (hS : v_Snd X ih) (hen : M.2.2.2.2.2 pc = some ((ins, len), x, y, z)) (r1 : v_rl ρ ls lc) (r2 : q_al2 (q_rv ρ) st sc) (r3 : v_ra X ρ A S R) (hs : g_stk ins z sc = some (w :: sc)) (h : ih O d μ M (pc + len) ls (v :: st) A K = true) : v_Out X O d M pc lc sc S R ρ K :=
  v_stk hS hen r1 (q_px_rf ρ) (st' := v :: st) (A' := A) (sc' := w :: sc) ⟨hv, r2⟩ r3 hs h
theorem v_d2_ok {op : Nat} (hop : op ≠ 0) (hS : v_Snd X ih) (hen : M.2.2.2.2.2 pc = some ((ins, len), x, y, z)) (r1 : v_rl ρ ls lc) (r2 : q_al2 (q_rv ρ) st sc) (r3 : v_ra X ρ A S R) (hs : ∀ sc, g_stk ins z sc = g_d2 (q_F op) sc) (h : v_d2 op st A (fun st A => ih O d μ M (pc + len) ls st A K) = true) : v_Out X O d M pc lc sc S R ρ K := by
  unfold v_d2 at h
  split at h
  · rename_i b a r
    obtain ⟨yv, t, rfl, hb, r4⟩ := q_cons_i r2
    obtain ⟨xv, t, rfl, ha, r5⟩ := q_cons_i r4
    rcases v_eq_ok r3.1 hb (b := .inl 0) (y := 0) rfl h with ⟨-, e1, -, h2⟩ | ⟨hne, e1, he1, h2⟩
    · cases h2
    · obtain ⟨ρ1, e2, v, p1, p2, p3, p4⟩ := v_bin_ok he1 hop ha hb h2
      have hy : ¬ yv = 0 := fun e => hne (by rw [e]; rfl)
      exact v_stk hS hen r1 p1 (st' := .inl v :: r) (A' := (e2, A.2)) (sc' := .int (q_F op xv yv) :: t) ⟨⟨_, rfl, p3⟩, q_st_px p1 r5⟩ (v_ra_env r3 p1 p2) (by rw [hs]; simp only [g_d2, if_neg hy]) p4
  · cases h
theorem v_cm_ok {md : Nat} (hS : v_Snd X ih) (hen : M.2.2.2.2.2 pc = some ((.lcmp, len), x, y, z)) (r1 : v_rl ρ ls lc) (r2 : q_al2 (q_rv ρ) st sc) (r3 : v_ra X ρ A S R) (h : v_cm md st A (fun st A => ih O d μ M (pc + len) ls st A K) = true) : v_Out X O d M pc lc sc S R ρ K := by
  unfold v_cm at h
  split at h
  · rename_i b a r
    obtain ⟨yv, t, rfl, hb, r4⟩ := q_cons_l r2
    obtain ⟨xv, t, rfl, ha, r5⟩ := q_cons_l r4
    have key : ∀ (c : Int) (ρ1 : List Int) (e : q_S), q_px ρ ρ1 → q_re ρ1 e → ih O d μ M (pc + len) ls (.inl (.inl c) :: r) (e, A.2) K = true → c = (lg_cmp xv yv).toInt → v_Out X O d M pc lc (.long yv :: .long xv :: t) S R ρ K := by
      intro c ρ1 e hp he hk hc
      exact v_stk hS hen r1 hp (st' := .inl (.inl c) :: r) (A' := (e, A.2)) (sc' := .int (lg_cmp xv yv) :: t) ⟨⟨_, rfl, hc.symm⟩, q_st_px hp r5⟩ (v_ra_env r3 hp he) rfl hk
    have key2 : ∀ (lo hi : Int) (ρ1 : List Int) (e : q_S), q_px ρ ρ1 → q_re ρ1 e → lo ≤ (lg_cmp xv yv).toInt → (lg_cmp xv yv).toInt ≤ hi → q_new e (lo, hi, 0, .inl 0, .inl 0) (fun v e => ih O d μ M (pc + len) ls (.inl v :: r) (e, A.2) K) = true → v_Out X O d M pc lc (.long yv :: .long xv :: t) S R ρ K := by
      intro lo hi ρ1 e hp he b1 b2 hk
      obtain ⟨n1, n2, n3⟩ := q_new_ok he (e := (lo, hi, 0, .inl 0, .inl 0)) b1 b2 (Or.inl rfl)
      have hp2 := q_px_tr hp n1
      exact v_stk hS hen r1 hp2 (st' := .inl (.inr (q_len e)) :: r) (A' := (_, A.2)) (sc' := .int (lg_cmp xv yv) :: t) ⟨⟨_, rfl, n3⟩, q_st_px hp2 r5⟩ (v_ra_env r3 hp2 n2) rfl hk
    have f1 : xv.toInt < yv.toInt → (lg_cmp xv yv).toInt = -1 := by
      intro h1
      have hn : ¬ xv > yv := fun hh => by have := Int64.lt_iff_toInt_lt.mp hh; omega
      have hne : ¬ xv = yv := fun hh => by rw [hh] at h1; omega
      simp [lg_cmp, hn, hne]
    have f2 : yv.toInt < xv.toInt → (lg_cmp xv yv).toInt = 1 := by
      intro h1
      have : xv > yv := Int64.lt_iff_toInt_lt.mpr h1
      simp [lg_cmp, this]
    have f3 : xv.toInt = yv.toInt → (lg_cmp xv yv).toInt = 0 := by
      intro h3
      have : xv = yv := Int64.toInt_inj.mp h3
      subst this
      simp [lg_cmp]
    cases m1 : Nat.beq md 1 with
    | true =>
      rw [m1] at h
      dsimp only [cond_true] at h
      rcases v_lt_ok r3.1 ha hb h with ⟨h1, ρ1, e1, hp, he1, h2⟩ | ⟨h1, ρ1, e1, hp, he1, h2⟩
      · exact key (-1) ρ1 e1 hp he1 h2 (f1 h1).symm
      · have f : (lg_cmp xv yv).toInt = 0 ∨ (lg_cmp xv yv).toInt = 1 := by
          rcases Int.lt_or_eq_of_le h1 with hh | hh
          · exact Or.inr (f2 hh)
          · exact Or.inl (f3 hh.symm)
        exact key2 0 1 ρ1 e1 hp he1 (by omega) (by omega) h2
    | false =>
      rw [m1] at h
      cases m2 : Nat.beq md 2 with
      | true =>
        rw [m2] at h
        dsimp only [cond_true, cond_false] at h
        rcases v_lt_ok r3.1 hb ha h with ⟨h1, ρ1, e1, hp, he1, h2⟩ | ⟨h1, ρ1, e1, hp, he1, h2⟩
        · exact key 1 ρ1 e1 hp he1 h2 (f2 h1).symm
        · have f : (lg_cmp xv yv).toInt = 0 ∨ (lg_cmp xv yv).toInt = -1 := by
            rcases Int.lt_or_eq_of_le h1 with hh | hh
            · exact Or.inr (f1 hh)
            · exact Or.inl (f3 hh)
          exact key2 (-1) 0 ρ1 e1 hp he1 (by omega) (by omega) h2
      | false =>
        rw [m2] at h
        dsimp only [cond_true, cond_false] at h
        rcases v_lt_ok r3.1 hb ha h with ⟨h1, ρ1, e1, hp, he1, h2⟩ | ⟨h1, ρ1, e1, hp, he1, h2⟩
        · exact key 1 ρ1 e1 hp he1 h2 (f2 h1).symm
        · rcases v_eq_ok he1 (q_r_px hp ha) (q_r_px hp hb) h2 with ⟨h3, e2, he2, h4⟩ | ⟨h3, e2, he2, h4⟩
          · exact key 0 ρ1 e2 hp he2 h4 (f3 h3).symm
          · exact key (-1) ρ1 e2 hp he2 h4 (f1 (by omega)).symm
  · cases h
theorem v_ld_ok {kd i : Nat} (hS : v_Snd X ih) (hen : M.2.2.2.2.2 pc = some ((ins, len), x, y, z)) (r1 : v_rl ρ ls lc) (r2 : q_al2 (q_rv ρ) st sc) (r3 : v_ra X ρ A S R) (h0 : g_stk ins z sc = none) (hl : ∀ w, g_get lc i = some w → ((kd = 0 ∧ ∃ v, w = .int v) ∨ (kd = 1 ∧ ∃ o, w = va_rf o) ∨ (kd = 2 ∧ ∃ v, w = .long v)) → g_lcl M.2.2.2.1 ins lc sc = some (lc, w :: sc)) (h : q_ld kd ls i st (fun st => ih O d μ M (pc + len) ls st A K) = true) : v_Out X O d M pc lc sc S R ρ K := by
  unfold q_ld at h
  split at h
  · rename_i v hv
    obtain ⟨w, g1, g2⟩ := r1 _ _ hv
    cases hk : Nat.beq kd 0 with
    | false => rw [hk] at h; cases h
    | true =>
      rw [hk] at h
      obtain ⟨u, rfl, -⟩ := id g2
      exact v_go hS hen (g_st_lcl (en := ((ins, len), x, y, z)) h0 (hl _ g1 (Or.inl ⟨q_beq hk, _, rfl⟩))) (q_px_rf ρ) r1 (st := _ :: st) (And.intro g2 r2) r3 h
  · rename_i v hv
    obtain ⟨w, g1, g2⟩ := r1 _ _ hv
    cases hk : Nat.beq kd 2 with
    | false => rw [hk] at h; cases h
    | true =>
      rw [hk] at h
      obtain ⟨u, rfl, -⟩ := id g2
      exact v_go hS hen (g_st_lcl (en := ((ins, len), x, y, z)) h0 (hl _ g1 (Or.inr (Or.inr ⟨q_beq hk, _, rfl⟩)))) (q_px_rf ρ) r1 (st := _ :: st) (And.intro g2 r2) r3 h
  · rename_i v hv
    obtain ⟨w, g1, g2⟩ := r1 _ _ hv
    cases hk : Nat.beq kd 1 with
    | false => rw [hk] at h; cases h
    | true =>
      rw [hk] at h
      have e : w = va_rf v := g2
      subst e
      exact v_go hS hen (g_st_lcl (en := ((ins, len), x, y, z)) h0 (hl _ g1 (Or.inr (Or.inl ⟨q_beq hk, _, rfl⟩)))) (q_px_rf ρ) r1 (st := _ :: st) (And.intro g2 r2) r3 h
  · cases h
theorem q_ldi_l {i : Nat} {w : Value} (h : g_get lc i = some w) (hk : (0 = 0 ∧ ∃ v, w = .int v) ∨ (0 = 1 ∧ ∃ o, w = va_rf o) ∨ (0 = 2 ∧ ∃ v, w = .long v)) : g_ldi lc i sc = some (lc, w :: sc) := by
  rcases hk with ⟨-, v, rfl⟩ | ⟨h2, -⟩ | ⟨h2, -⟩
  · simp only [g_ldi, h]
  · omega
  · omega
theorem q_lda_l {i : Nat} {w : Value} (h : g_get lc i = some w) (hk : (1 = 0 ∧ ∃ v, w = .int v) ∨ (1 = 1 ∧ ∃ o, w = va_rf o) ∨ (1 = 2 ∧ ∃ v, w = .long v)) : g_lda lc i sc = some (lc, w :: sc) := by
  rcases hk with ⟨h2, -⟩ | ⟨-, o, rfl⟩ | ⟨h2, -⟩
  · omega
  · cases o with
    | none => have h : g_get lc i = some .null := h; simp only [g_lda, h]; rfl
    | some a => have h : g_get lc i = some (.ref a) := h; simp only [g_lda, h]; rfl
  · omega
theorem q_ldl_l {i : Nat} {w : Value} (h : g_get lc i = some w) (hk : (2 = 0 ∧ ∃ v, w = .int v) ∨ (2 = 1 ∧ ∃ o, w = va_rf o) ∨ (2 = 2 ∧ ∃ v, w = .long v)) : g_ldl lc i sc = some (lc, w :: sc) := by
  rcases hk with ⟨h2, -⟩ | ⟨h2, -⟩ | ⟨-, v, rfl⟩
  · omega
  · omega
  · simp only [g_ldl, h]
theorem v_st_ok {kd i : Nat} (hS : v_Snd X ih) (hen : M.2.2.2.2.2 pc = some ((ins, len), x, y, z)) (r1 : v_rl ρ ls lc) (r2 : q_al2 (q_rv ρ) st sc) (r3 : v_ra X ρ A S R) (h0 : g_stk ins z sc = none) (hl : ∀ w t, sc = w :: t → ((kd = 0 ∧ ∃ v, w = .int v) ∨ (kd = 1 ∧ ∃ o, w = va_rf o)) → i < M.2.2.2.1 → g_lcl M.2.2.2.1 ins lc sc = some (g_set lc i w, t)) (h : v_st kd M.2.2.2.1 ls i st (fun ls st => ih O d μ M (pc + len) ls st A K) = true) : v_Out X O d M pc lc sc S R ρ K := by
  unfold v_st at h
  split at h
  · rename_i v r
    obtain ⟨w, t, rfl, h1, r4⟩ := q_cons r2
    cases hk : (Nat.beq kd 0 && Nat.blt i M.2.2.2.1) with
    | false => rw [hk] at h; cases h
    | true =>
      rw [hk] at h
      rw [Bool.and_eq_true] at hk
      obtain ⟨u, rfl, -⟩ := id h1
      exact v_go hS hen (g_st_lcl (en := ((ins, len), x, y, z)) h0 (hl _ _ rfl (Or.inl ⟨q_beq hk.1, _, rfl⟩) (q_blt hk.2))) (q_px_rf ρ) (v_sl_ok r1 i h1) r4 r3 h
  · rename_i v r
    obtain ⟨w, t, rfl, h1, r4⟩ := q_cons r2
    cases hk : (Nat.beq kd 1 && Nat.blt i M.2.2.2.1) with
    | false => rw [hk] at h; cases h
    | true =>
      rw [hk] at h
      rw [Bool.and_eq_true] at hk
      have e : w = va_rf v := h1
      subst e
      exact v_go hS hen (g_st_lcl (en := ((ins, len), x, y, z)) h0 (hl _ _ rfl (Or.inr ⟨q_beq hk.1, _, rfl⟩) (q_blt hk.2))) (q_px_rf ρ) (v_sl_ok r1 i h1) r4 r3 h
  · cases h
theorem q_sti_l {i nL : Nat} {w : Value} {t : List Value} (hk : (0 = 0 ∧ ∃ v, w = .int v) ∨ (0 = 1 ∧ ∃ o, w = va_rf o)) (hi : i < nL) : g_sti nL lc i (w :: t) = some (g_set lc i w, t) := by
  rcases hk with ⟨-, v, rfl⟩ | ⟨h2, -⟩
  · simp only [g_sti, if_pos hi]
  · omega
theorem q_sta_l {i nL : Nat} {w : Value} {t : List Value} (hk : (1 = 0 ∧ ∃ v, w = .int v) ∨ (1 = 1 ∧ ∃ o, w = va_rf o)) (hi : i < nL) : g_sta nL lc i (w :: t) = some (g_set lc i w, t) := by
  rcases hk with ⟨h2, -⟩ | ⟨-, o, rfl⟩
  · omega
  · cases o with
    | none => simp only [va_rf, g_sta, if_pos hi]
    | some a => simp only [va_rf, g_sta, if_pos hi]
theorem v_inc_ok {i : Nat} {c : Int} (hS : v_Snd X ih) (hen : M.2.2.2.2.2 pc = some ((.iinc i c, len), x, y, z)) (r1 : v_rl ρ ls lc) (r2 : q_al2 (q_rv ρ) st sc) (r3 : v_ra X ρ A S R) (h : v_inc M.2.2.2.1 ls i c A (fun ls A => ih O d μ M (pc + len) ls st A K) = true) : v_Out X O d M pc lc sc S R ρ K := by
  unfold v_inc at h
  split at h
  · rename_i v hv
    obtain ⟨w, g1, g2⟩ := r1 _ _ hv
    obtain ⟨u, rfl, g3⟩ := g2
    cases hk : (Nat.blt i M.2.2.2.1 && Nat.blt c.natAbs 32768) with
    | false => rw [hk] at h; cases h
    | true =>
      rw [hk] at h
      dsimp only [cond_true] at h
      rw [Bool.and_eq_true] at hk
      have hi := q_blt hk.1
      have hc := q_blt hk.2
      have e : (Int32.ofInt c).toInt = c := q_ofr (by omega) (by omega)
      obtain ⟨ρ1, e1, v1, p1, p2, p3, p4⟩ := v_bin_ok r3.1 (op := 1) (by decide) g3 (b := .inl c) (y := Int32.ofInt c) e h
      refine v_go hS hen (g_st_lcl (en := ((.iinc i c, len), x, y, z)) (q := (g_set lc i (.int (u + Int32.ofInt c)), sc)) rfl ?_) p1 (v_sl_ok (v_rl_px p1 r1) i (v := .inl v1) ⟨_, rfl, p3⟩) (q_st_px p1 r2) (v_ra_env r3 p1 p2) p4
      simp only [g_lcl, g_inc, g1, if_pos hi]
  · cases h
/-- jumps -/
theorem v_b1_ok {cmp : q_N → q_N → q_S → (q_S → Bool) → (q_S → Bool) → Bool} {P : Int32 → Prop} {tt ff : Nat} (hcmp : ∀ (a : q_N) (v : Int32) (env : q_S) (kt kf : q_S → Bool), q_re ρ env → q_r ρ a v.toInt → cmp a (.inl 0) env kt kf = true → (P v ∧ ∃ ρ' env', q_px ρ ρ' ∧ q_re ρ' env' ∧ kt env' = true) ∨ (¬ P v ∧ ∃ ρ' env', q_px ρ ρ' ∧ q_re ρ' env' ∧ kf env' = true)) (hS : v_Snd X ih) (hen : M.2.2.2.2.2 pc = some ((ins, len), x, y, z)) (r1 : v_rl ρ ls lc) (r2 : q_al2 (q_rv ρ) st sc) (r3 : v_ra X ρ A S R) (h0 : g_stk ins z sc = none) (h1 : g_lcl M.2.2.2.1 ins lc sc = none) (hj1 : ∀ v t, sc = .int v :: t → P v → g_jmp ins pc x sc = some (tt, t)) (hj2 : ∀ v t, sc = .int v :: t → ¬ P v → g_jmp ins pc x sc = some (ff, t)) (h : v_b1 cmp st A (fun st A => ih O d μ M tt ls st A K) (fun st A => ih O d μ M ff ls st A K) = true) : v_Out X O d M pc lc sc S R ρ K := by
  unfold v_b1 at h
  split at h
  · obtain ⟨v, t, rfl, ha, r4⟩ := q_cons_i r2
    rcases hcmp _ v _ _ _ r3.1 ha h with ⟨hp, ρ1, e, px, he, hk⟩ | ⟨hp, ρ1, e, px, he, hk⟩
    · exact v_go hS hen (g_st_jmp (en := ((ins, len), x, y, z)) h0 h1 (hj1 v t rfl hp)) px (v_rl_px px r1) (q_st_px px r4) (v_ra_env r3 px he) hk
    · exact v_go hS hen (g_st_jmp (en := ((ins, len), x, y, z)) h0 h1 (hj2 v t rfl hp)) px (v_rl_px px r1) (q_st_px px r4) (v_ra_env r3 px he) hk
  · cases h
theorem v_b2_ok {cmp : q_N → q_N → q_S → (q_S → Bool) → (q_S → Bool) → Bool} {P : Int32 → Int32 → Prop} {tt ff : Nat} (hcmp : ∀ (a b : q_N) (v w : Int32) (env : q_S) (kt kf : q_S → Bool), q_re ρ env → q_r ρ a v.toInt → q_r ρ b w.toInt → cmp a b env kt kf = true → (P v w ∧ ∃ ρ' env', q_px ρ ρ' ∧ q_re ρ' env' ∧ kt env' = true) ∨ (¬ P v w ∧ ∃ ρ' env', q_px ρ ρ' ∧ q_re ρ' env' ∧ kf env' = true)) (hS : v_Snd X ih) (hen : M.2.2.2.2.2 pc = some ((ins, len), x, y, z)) (r1 : v_rl ρ ls lc) (r2 : q_al2 (q_rv ρ) st sc) (r3 : v_ra X ρ A S R) (h0 : g_stk ins z sc = none) (h1 : g_lcl M.2.2.2.1 ins lc sc = none) (hj1 : ∀ v w t, sc = .int w :: .int v :: t → P v w → g_jmp ins pc x sc = some (tt, t)) (hj2 : ∀ v w t, sc = .int w :: .int v :: t → ¬ P v w → g_jmp ins pc x sc = some (ff, t)) (h : v_b2 cmp st A (fun st A => ih O d μ M tt ls st A K) (fun st A => ih O d μ M ff ls st A K) = true) : v_Out X O d M pc lc sc S R ρ K := by
  unfold v_b2 at h
  split at h
  · obtain ⟨w, t, rfl, hb, r4⟩ := q_cons_i r2
    obtain ⟨v, t, rfl, ha, r5⟩ := q_cons_i r4
    rcases hcmp _ _ v w _ _ _ r3.1 ha hb h with ⟨hp, ρ1, e, px, he, hk⟩ | ⟨hp, ρ1, e, px, he, hk⟩
    · exact v_go hS hen (g_st_jmp (en := ((ins, len), x, y, z)) h0 h1 (hj1 v w t rfl hp)) px (v_rl_px px r1) (q_st_px px r5) (v_ra_env r3 px he) hk
    · exact v_go hS hen (g_st_jmp (en := ((ins, len), x, y, z)) h0 h1 (hj2 v w t rfl hp)) px (v_rl_px px r1) (q_st_px px r5) (v_ra_env r3 px he) hk
  · cases h
end VH
theorem q_lt32 (v w : Int32) : v < w ↔ v.toInt < w.toInt := Int32.lt_iff_toInt_lt
theorem q_le32 (v w : Int32) : v ≤ w ↔ v.toInt ≤ w.toInt := Int32.le_iff_toInt_le
theorem q_eq32 (v w : Int32) : v = w ↔ v.toInt = w.toInt := ⟨fun h => by rw [h], q_inj⟩
section VC
variable {ρ : List Int}
theorem v_ceq (a b : q_N) (v w : Int32) (env : q_S) (kt kf : q_S → Bool) (he : q_re ρ env) (ha : q_r ρ a v.toInt) (hb : q_r ρ b w.toInt) (h : v_eq a b env kt kf = true) : (v = w ∧ ∃ ρ' env', q_px ρ ρ' ∧ q_re ρ' env' ∧ kt env' = true) ∨ (¬ v = w ∧ ∃ ρ' env', q_px ρ ρ' ∧ q_re ρ' env' ∧ kf env' = true) := by
  rw [q_eq32]
  rcases v_eq_ok he ha hb h with ⟨g1, g2, g3, g4⟩ | ⟨g1, g2, g3, g4⟩
  · exact Or.inl ⟨g1, ρ, g2, q_px_rf ρ, g3, g4⟩
  · exact Or.inr ⟨g1, ρ, g2, q_px_rf ρ, g3, g4⟩
theorem v_clt (a b : q_N) (v w : Int32) (env : q_S) (kt kf : q_S → Bool) (he : q_re ρ env) (ha : q_r ρ a v.toInt) (hb : q_r ρ b w.toInt) (h : v_lt a b env kt kf = true) : (v < w ∧ ∃ ρ' env', q_px ρ ρ' ∧ q_re ρ' env' ∧ kt env' = true) ∨ (¬ v < w ∧ ∃ ρ' env', q_px ρ ρ' ∧ q_re ρ' env' ∧ kf env' = true) := by
  rw [q_lt32]
  rcases v_lt_ok he ha hb h with ⟨g1, g2⟩ | ⟨g1, g2⟩
  · exact Or.inl ⟨g1, g2⟩
  · exact Or.inr ⟨by omega, g2⟩
theorem v_cgt (a b : q_N) (v w : Int32) (env : q_S) (kt kf : q_S → Bool) (he : q_re ρ env) (ha : q_r ρ a v.toInt) (hb : q_r ρ b w.toInt) (h : v_lt b a env kt kf = true) : (w < v ∧ ∃ ρ' env', q_px ρ ρ' ∧ q_re ρ' env' ∧ kt env' = true) ∨ (¬ w < v ∧ ∃ ρ' env', q_px ρ ρ' ∧ q_re ρ' env' ∧ kf env' = true) := v_clt b a w v env kt kf he hb ha h
end VC
