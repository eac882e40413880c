theorem q_gl_ok {ρ : List Int} : ∀ {ls : q_L} {lc : g_Lc} (_ : q_rl ρ ls lc) {i : Nat} {v : q_V}, q_gl ls i = some v → ∃ w, g_get lc i = some w ∧ q_rv ρ v w
  | [], [], _, _, _, h => by cases h
  | p :: s, q :: t, ⟨⟨h1, h2⟩, h3⟩, i, v, h => by
    have h : (bif Nat.beq p.1 i then some p.2 else q_gl s i) = some v := h
    have e : g_get (q :: t) i = if q.1 = i then some q.2 else g_get t i := by
      unfold g_get
      by_cases hq : q.1 = i
      · simp [hq]
      · simp [hq]
    rw [e, ← h1]
    cases hb : Nat.beq p.1 i with
    | true =>
      rw [hb] at h
      cases h
      rw [if_pos (Nat.eq_of_beq_eq_true hb)]
      exact ⟨_, rfl, h2⟩
    | false =>
      rw [hb] at h
      rw [if_neg (fun e => by rw [e] at hb; simp at hb)]
      exact q_gl_ok h3 h
  | [], _ :: _, h, _, _, _ => h.elim
  | _ :: _, [], h, _, _, _ => h.elim
theorem q_fl_ok {ρ : List Int} (i : Nat) : ∀ {ls : q_L} {lc : g_Lc}, q_rl ρ ls lc → q_rl ρ (q_fl ls i) (lc.filter (fun q => !(q.1 == i) && !(q.1 + 1 == i && q.2.category == 2)))
  | [], [], _ => trivial
  | p :: s, q :: t, ⟨⟨h1, h2⟩, h3⟩ => by
    have ih := q_fl_ok i h3
    show q_rl ρ (bif Nat.beq p.1 i || (Nat.beq (p.1 + 1) i && Nat.beq (q_ct p.2) 2) then q_fl s i else p :: q_fl s i) _
    have e : (!(q.1 == i) && !(q.1 + 1 == i && q.2.category == 2)) = !(Nat.beq p.1 i || (Nat.beq (p.1 + 1) i && Nat.beq (q_ct p.2) 2)) := by
      rw [q_cat h2, ← h1]
      have eb : ∀ a b : Nat, (a == b) = Nat.beq a b := fun a b => by
        cases hc : Nat.beq a b with
        | true => rw [Nat.eq_of_beq_eq_true hc]; simp
        | false =>
          have : ¬ a = b := fun e => by rw [e] at hc; simp at hc
          simpa using this
      rw [eb, eb, eb]
      cases Nat.beq p.1 i <;> rfl
    rw [List.filter_cons, e]
    cases hb : (Nat.beq p.1 i || (Nat.beq (p.1 + 1) i && Nat.beq (q_ct p.2) 2)) with
    | true => exact ih
    | false => exact ⟨⟨h1, h2⟩, ih⟩
  | [], _ :: _, h => h.elim
  | _ :: _, [], h => h.elim
theorem q_sl_ok {ρ : List Int} {ls : q_L} {lc : g_Lc} (h : q_rl ρ ls lc) (i : Nat) {v : q_V} {w : Value} (hv : q_rv ρ v w) : q_rl ρ (q_sl ls i v) (g_set lc i w) := ⟨⟨rfl, hv⟩, q_fl_ok i h⟩
theorem q_blt {a b : Nat} (h : Nat.blt a b = true) : a < b := by rw [Nat.blt_eq] at h; exact h
theorem q_beq {a b : Nat} (h : Nat.beq a b = true) : a = b := Nat.eq_of_beq_eq_true h
section QL
variable {T : q_T} {L : Nat} {scr : List q_N} {xs : Nat → Int32} {ih : q_Ih} {d : Nat} {M : g_M} {pc : Nat} {ls : q_L} {st : List q_V} {A : q_A} {K : q_K} {ρ : List Int} {lc : g_Lc} {sc : List Value} {σ : List g_Ce} {ins : Instr} {len x y : Nat} {z : Int}
theorem q_ld_ok {kd i : Nat} (hS : q_Snd T L scr xs ih) (hd : d ≤ T.2.1) (hen : M.2.2.2.2.2 pc = some ((ins, len), x, y, z)) (r1 : q_rl ρ ls lc) (r2 : q_al2 (q_rv ρ) st sc) (r3 : q_ra ρ scr xs A σ) (h0 : g_stk ins z sc = none) (hl : ∀ w, g_get lc i = some w → ((kd = 0 ∧ ∃ v, w = .int v) ∨ (kd = 1 ∧ ∃ o, w = va_rf o) ∨ (kd = 2 ∧ ∃ v, w = .long v)) → g_lcl M.2.2.2.1 ins lc sc = some (lc, w :: sc)) (h : q_ld kd ls i st (fun st => ih d M (pc + len) ls st A K) = true) : q_Out T L scr xs d M pc lc sc σ ρ K := by
  unfold q_ld at h
  split at h
  · rename_i v hv
    obtain ⟨w, g1, g2⟩ := q_gl_ok r1 hv
    cases hk : Nat.beq kd 0 with
    | false => rw [hk] at h; cases h
    | true =>
      rw [hk] at h
      obtain ⟨u, rfl, -⟩ := id g2
      exact q_go hS hd hen (g_st_lcl (en := ((ins, len), x, y, z)) h0 (hl _ g1 (Or.inl ⟨q_beq hk, _, rfl⟩))) (q_px_rf ρ) r1 (st := _ :: st) (And.intro g2 r2) r3 h
  · rename_i v hv
    obtain ⟨w, g1, g2⟩ := q_gl_ok r1 hv
    cases hk : Nat.beq kd 2 with
    | false => rw [hk] at h; cases h
    | true =>
      rw [hk] at h
      obtain ⟨u, rfl, -⟩ := id g2
      exact q_go hS hd hen (g_st_lcl (en := ((ins, len), x, y, z)) h0 (hl _ g1 (Or.inr (Or.inr ⟨q_beq hk, _, rfl⟩)))) (q_px_rf ρ) r1 (st := _ :: st) (And.intro g2 r2) r3 h
  · rename_i v hv
    obtain ⟨w, g1, g2⟩ := q_gl_ok r1 hv
    cases hk : Nat.beq kd 1 with
    | false => rw [hk] at h; cases h
    | true =>
      rw [hk] at h
      have e : w = va_rf v := g2
      subst e
      exact q_go hS hd hen (g_st_lcl (en := ((ins, len), x, y, z)) h0 (hl _ g1 (Or.inr (Or.inl ⟨q_beq hk, _, rfl⟩)))) (q_px_rf ρ) r1 (st := _ :: st) (And.intro g2 r2) r3 h
  · cases h
theorem q_ldi_l {i : Nat} {w : Value} (h : g_get lc i = some w) (hk : (0 = 0 ∧ ∃ v, w = .int v) ∨ (0 = 1 ∧ ∃ o, w = va_rf o) ∨ (0 = 2 ∧ ∃ v, w = .long v)) : g_ldi lc i sc = some (lc, w :: sc) := by
  rcases hk with ⟨-, v, rfl⟩ | ⟨h2, -⟩ | ⟨h2, -⟩
  · simp only [g_ldi, h]
  · omega
  · omega
theorem q_lda_l {i : Nat} {w : Value} (h : g_get lc i = some w) (hk : (1 = 0 ∧ ∃ v, w = .int v) ∨ (1 = 1 ∧ ∃ o, w = va_rf o) ∨ (1 = 2 ∧ ∃ v, w = .long v)) : g_lda lc i sc = some (lc, w :: sc) := by
  rcases hk with ⟨h2, -⟩ | ⟨-, o, rfl⟩ | ⟨h2, -⟩
  · omega
  · cases o with
    | none => have h : g_get lc i = some .null := h; simp only [g_lda, h]; rfl
    | some a => have h : g_get lc i = some (.ref a) := h; simp only [g_lda, h]; rfl
  · omega
theorem q_ldl_l {i : Nat} {w : Value} (h : g_get lc i = some w) (hk : (2 = 0 ∧ ∃ v, w = .int v) ∨ (2 = 1 ∧ ∃ o, w = va_rf o) ∨ (2 = 2 ∧ ∃ v, w = .long v)) : g_ldl lc i sc = some (lc, w :: sc) := by
  rcases hk with ⟨h2, -⟩ | ⟨h2, -⟩ | ⟨-, v, rfl⟩
  · omega
  · omega
  · simp only [g_ldl, h]
theorem q_st_ok {kd i : Nat} (hS : q_Snd T L scr xs ih) (hd : d ≤ T.2.1) (hen : M.2.2.2.2.2 pc = some ((ins, len), x, y, z)) (r1 : q_rl ρ ls lc) (r2 : q_al2 (q_rv ρ) st sc) (r3 : q_ra ρ scr xs A σ) (h0 : g_stk ins z sc = none) (hl : ∀ w t, sc = w :: t → ((kd = 0 ∧ ∃ v, w = .int v) ∨ (kd = 1 ∧ ∃ o, w = va_rf o)) → i < M.2.2.2.1 → g_lcl M.2.2.2.1 ins lc sc = some (g_set lc i w, t)) (h : q_st kd M.2.2.2.1 ls i st (fun ls st => ih d M (pc + len) ls st A K) = true) : q_Out T L scr xs d M pc lc sc σ ρ K := by
  unfold q_st at h
  split at h
  · rename_i v r
    obtain ⟨w, t, rfl, h1, r4⟩ := q_cons r2
    cases hk : (Nat.beq kd 0 && Nat.blt i M.2.2.2.1) with
    | false => rw [hk] at h; cases h
    | true =>
      rw [hk] at h
      rw [Bool.and_eq_true] at hk
      obtain ⟨u, rfl, -⟩ := id h1
      exact q_go hS hd hen (g_st_lcl (en := ((ins, len), x, y, z)) h0 (hl _ _ rfl (Or.inl ⟨q_beq hk.1, _, rfl⟩) (q_blt hk.2))) (q_px_rf ρ) (q_sl_ok r1 i h1) r4 r3 h
  · rename_i v r
    obtain ⟨w, t, rfl, h1, r4⟩ := q_cons r2
    cases hk : (Nat.beq kd 1 && Nat.blt i M.2.2.2.1) with
    | false => rw [hk] at h; cases h
    | true =>
      rw [hk] at h
      rw [Bool.and_eq_true] at hk
      have e : w = va_rf v := h1
      subst e
      exact q_go hS hd hen (g_st_lcl (en := ((ins, len), x, y, z)) h0 (hl _ _ rfl (Or.inr ⟨q_beq hk.1, _, rfl⟩) (q_blt hk.2))) (q_px_rf ρ) (q_sl_ok r1 i h1) r4 r3 h
  · cases h
theorem q_sti_l {i nL : Nat} {w : Value} {t : List Value} (hk : (0 = 0 ∧ ∃ v, w = .int v) ∨ (0 = 1 ∧ ∃ o, w = va_rf o)) (hi : i < nL) : g_sti nL lc i (w :: t) = some (g_set lc i w, t) := by
  rcases hk with ⟨-, v, rfl⟩ | ⟨h2, -⟩
  · simp only [g_sti, if_pos hi]
  · omega
theorem q_sta_l {i nL : Nat} {w : Value} {t : List Value} (hk : (1 = 0 ∧ ∃ v, w = .int v) ∨ (1 = 1 ∧ ∃ o, w = va_rf o)) (hi : i < nL) : g_sta nL lc i (w :: t) = some (g_set lc i w, t) := by
  rcases hk with ⟨h2, -⟩ | ⟨-, o, rfl⟩
  · omega
  · cases o with
    | none => simp only [va_rf, g_sta, if_pos hi]
    | some a => simp only [va_rf, g_sta, if_pos hi]
theorem q_inc_ok {i : Nat} {c : Int} (hS : q_Snd T L scr xs ih) (hd : d ≤ T.2.1) (hen : M.2.2.2.2.2 pc = some ((.iinc i c, len), x, y, z)) (r1 : q_rl ρ ls lc) (r2 : q_al2 (q_rv ρ) st sc) (r3 : q_ra ρ scr xs A σ) (h : q_inc M.2.2.2.1 ls i c A (fun ls A => ih d M (pc + len) ls st A K) = true) : q_Out T L scr xs d M pc lc sc σ ρ K := by
  unfold q_inc at h
  split at h
  · rename_i v hv
    obtain ⟨w, g1, g2⟩ := q_gl_ok r1 hv
    obtain ⟨u, rfl, g3⟩ := g2
    cases hk : (Nat.blt i M.2.2.2.1 && Nat.blt c.natAbs 32768) with
    | false => rw [hk] at h; cases h
    | true =>
      rw [hk] at h
      dsimp only [cond_true] at h
      rw [Bool.and_eq_true] at hk
      have hi := q_blt hk.1
      have hc := q_blt hk.2
      have e : (Int32.ofInt c).toInt = c := q_ofr (by omega) (by omega)
      obtain ⟨ρ1, e1, v1, p1, p2, p3, p4⟩ := q_bin_ok r3.1 (op := 1) (by decide) g3 (b := .inl c) (y := Int32.ofInt c) e h
      refine q_go hS hd hen (g_st_lcl (en := ((.iinc i c, len), x, y, z)) (q := (g_set lc i (.int (u + Int32.ofInt c)), sc)) rfl ?_) p1 (q_sl_ok (q_rl_px p1 r1) i (v := .inl v1) ⟨_, rfl, p3⟩) (q_st_px p1 r2) (q_ra_env r3 p1 p2) p4
      simp only [g_lcl, g_inc, g1, if_pos hi]
  · cases h
/-- jumps -/
theorem q_b1_ok {cmp : q_N → q_N → q_S → (q_S → Bool) → (q_S → Bool) → Bool} {P : Int32 → Prop} {tt ff : Nat} (hcmp : ∀ (a : q_N) (v : Int32) (env : q_S) (kt kf : q_S → Bool), q_re ρ env → q_r ρ a v.toInt → cmp a (.inl 0) env kt kf = true → (P v ∧ ∃ env', q_re ρ env' ∧ kt env' = true) ∨ (¬ P v ∧ ∃ env', q_re ρ env' ∧ kf env' = true)) (hS : q_Snd T L scr xs ih) (hd : d ≤ T.2.1) (hen : M.2.2.2.2.2 pc = some ((ins, len), x, y, z)) (r1 : q_rl ρ ls lc) (r2 : q_al2 (q_rv ρ) st sc) (r3 : q_ra ρ scr xs A σ) (h0 : g_stk ins z sc = none) (h1 : g_lcl M.2.2.2.1 ins lc sc = none) (hj1 : ∀ v t, sc = .int v :: t → P v → g_jmp ins pc x sc = some (tt, t)) (hj2 : ∀ v t, sc = .int v :: t → ¬ P v → g_jmp ins pc x sc = some (ff, t)) (h : q_b1 cmp st A (fun st A => ih d M tt ls st A K) (fun st A => ih d M ff ls st A K) = true) : q_Out T L scr xs d M pc lc sc σ ρ K := by
  unfold q_b1 at h
  split at h
  · obtain ⟨v, t, rfl, ha, r4⟩ := q_cons_i r2
    rcases hcmp _ v _ _ _ r3.1 ha h with ⟨hp, e, he, hk⟩ | ⟨hp, e, he, hk⟩
    · exact q_go hS hd hen (g_st_jmp (en := ((ins, len), x, y, z)) h0 h1 (hj1 v t rfl hp)) (q_px_rf ρ) r1 r4 (q_ra_env r3 (q_px_rf ρ) he) hk
    · exact q_go hS hd hen (g_st_jmp (en := ((ins, len), x, y, z)) h0 h1 (hj2 v t rfl hp)) (q_px_rf ρ) r1 r4 (q_ra_env r3 (q_px_rf ρ) he) hk
  · cases h
theorem q_b2_ok {cmp : q_N → q_N → q_S → (q_S → Bool) → (q_S → Bool) → Bool} {P : Int32 → Int32 → Prop} {tt ff : Nat} (hcmp : ∀ (a b : q_N) (v w : Int32) (env : q_S) (kt kf : q_S → Bool), q_re ρ env → q_r ρ a v.toInt → q_r ρ b w.toInt → cmp a b env kt kf = true → (P v w ∧ ∃ env', q_re ρ env' ∧ kt env' = true) ∨ (¬ P v w ∧ ∃ env', q_re ρ env' ∧ kf env' = true)) (hS : q_Snd T L scr xs ih) (hd : d ≤ T.2.1) (hen : M.2.2.2.2.2 pc = some ((ins, len), x, y, z)) (r1 : q_rl ρ ls lc) (r2 : q_al2 (q_rv ρ) st sc) (r3 : q_ra ρ scr xs A σ) (h0 : g_stk ins z sc = none) (h1 : g_lcl M.2.2.2.1 ins lc sc = none) (hj1 : ∀ v w t, sc = .int w :: .int v :: t → P v w → g_jmp ins pc x sc = some (tt, t)) (hj2 : ∀ v w t, sc = .int w :: .int v :: t → ¬ P v w → g_jmp ins pc x sc = some (ff, t)) (h : q_b2 cmp st A (fun st A => ih d M tt ls st A K) (fun st A => ih d M ff ls st A K) = true) : q_Out T L scr xs d M pc lc sc σ ρ K := by
  unfold q_b2 at h
  split at h
  · obtain ⟨w, t, rfl, hb, r4⟩ := q_cons_i r2
    obtain ⟨v, t, rfl, ha, r5⟩ := q_cons_i r4
    rcases hcmp _ _ v w _ _ _ r3.1 ha hb h with ⟨hp, e, he, hk⟩ | ⟨hp, e, he, hk⟩
    · exact q_go hS hd hen (g_st_jmp (en := ((ins, len), x, y, z)) h0 h1 (hj1 v w t rfl hp)) (q_px_rf ρ) r1 r5 (q_ra_env r3 (q_px_rf ρ) he) hk
    · exact q_go hS hd hen (g_st_jmp (en := ((ins, len), x, y, z)) h0 h1 (hj2 v w t rfl hp)) (q_px_rf ρ) r1 r5 (q_ra_env r3 (q_px_rf ρ) he) hk
  · cases h
end QL
theorem q_lt32 (v w : Int32) : v < w ↔ v.toInt < w.toInt := Int32.lt_iff_toInt_lt
theorem q_le32 (v w : Int32) : v ≤ w ↔ v.toInt ≤ w.toInt := Int32.le_iff_toInt_le
theorem q_eq32 (v w : Int32) : v = w ↔ v.toInt = w.toInt := ⟨fun h => by rw [h], q_inj⟩
section QC
variable {ρ : List Int}
theorem q_ceq (a b : q_N) (v w : Int32) (env : q_S) (kt kf : q_S → Bool) (he : q_re ρ env) (ha : q_r ρ a v.toInt) (hb : q_r ρ b w.toInt) (h : q_eq a b env kt kf = true) : (v = w ∧ ∃ env', q_re ρ env' ∧ kt env' = true) ∨ (¬ v = w ∧ ∃ env', q_re ρ env' ∧ kf env' = true) := by
  rw [q_eq32]
  exact q_eq_ok he ha hb h
theorem q_clt (a b : q_N) (v w : Int32) (env : q_S) (kt kf : q_S → Bool) (he : q_re ρ env) (ha : q_r ρ a v.toInt) (hb : q_r ρ b w.toInt) (h : q_lt a b env kt kf = true) : (v < w ∧ ∃ env', q_re ρ env' ∧ kt env' = true) ∨ (¬ v < w ∧ ∃ env', q_re ρ env' ∧ kf env' = true) := by
  rw [q_lt32]
  rcases q_lt_ok he ha hb h with ⟨g1, g2⟩ | ⟨g1, g2⟩
  · exact Or.inl ⟨g1, g2⟩
  · exact Or.inr ⟨by omega, g2⟩
theorem q_cgt (a b : q_N) (v w : Int32) (env : q_S) (kt kf : q_S → Bool) (he : q_re ρ env) (ha : q_r ρ a v.toInt) (hb : q_r ρ b w.toInt) (h : q_lt b a env kt kf = true) : (w < v ∧ ∃ env', q_re ρ env' ∧ kt env' = true) ∨ (¬ w < v ∧ ∃ env', q_re ρ env' ∧ kf env' = true) := q_clt b a w v env kt kf he hb ha h
end QC
