section PrtS42a
/-! partial roads: what holds of a run if it ends (that it ends, and is safe, the rows v_met say) -/
noncomputable def u_P (L : Nat) (xs : Nat → Int32) (n d : Nat) (M : g_M) (pc : Nat) (lc : g_Lc) (sc : List Value) (S : v_Sf) (R : v_Rf) (Q : Option Value → v_Sf → v_Rf → Prop) : Prop := ∀ r σ, g_run g_mt L xs n d M pc lc sc (v_mk v_ty S R) = some (r, σ) → ∃ S' R', σ = v_mk v_ty S' R' ∧ Q r S' R'
set_option maxRecDepth 20000 in
theorem g_mt_big {k : Nat} (h : 301 ≤ k) : g_mt k = none := by
  have e : g_ml.length = 301 := rfl
  unfold g_mt
  cases Nat.beq k 0 with
  | true => rfl
  | false =>
    rw [cond_false, g_nt_eq]
    exact List.getElem?_eq_none (by omega)
theorem u_outT {w : Int32} {n : Nat} (h : ¬ (0 ≤ w.toInt ∧ w.toInt < (n : Int))) : g_out w n = true := by
  unfold g_out
  rw [decide_eq_true_iff]
  by_cases h0 : w < 0
  · exact Or.inl h0
  · refine Or.inr ?_
    rw [q_lt32] at h0
    have e : (0 : Int32).toInt = 0 := rfl
    have e2 : w.toNatClampNeg = w.toInt.toNat := rfl
    rw [e2]
    omega
section UPA
variable {L : Nat} {xs : Nat → Int32} {n d : Nat} {M : g_M} {pc : Nat} {lc : g_Lc} {sc : List Value} {S : v_Sf} {R : v_Rf} {Q : Option Value → v_Sf → v_Rf → Prop}
theorem u_zero : u_P L xs 0 d M pc lc sc S R Q := by
  intro r σ h
  have h' : (none : Option (Option Value × List g_Ce)) = some (r, σ) := h
  cases h'
theorem u_le {m : Nat} (hm : m ≤ n) (k : u_P L xs n d M pc lc sc S R Q) : u_P L xs m d M pc lc sc S R Q := by
  intro r σ h
  have h2 := g_run_m L xs (n - m) h
  rw [show m + (n - m) = n by omega] at h2
  exact k r σ h2
theorem u_mono {Q' : Option Value → v_Sf → v_Rf → Prop} (h : u_P L xs n d M pc lc sc S R Q) (k : ∀ r S1 R1, Q r S1 R1 → Q' r S1 R1) : u_P L xs n d M pc lc sc S R Q' := by
  intro r σ h2
  obtain ⟨S', R', e, q⟩ := h r σ h2
  exact ⟨S', R', e, k _ _ _ q⟩
theorem u_one1 {en : g_En} {pc1 : Nat} {lc1 : g_Lc} {sc1 : List Value} {S1 : v_Sf} {R1 : v_Rf} (hen : M.2.2.2.2.2 pc = some en) (hs : g_step d M.2.2.2.1 L xs en pc lc sc (v_mk v_ty S R) = some (pc1, lc1, sc1, v_mk v_ty S1 R1)) (k : u_P L xs n d M pc1 lc1 sc1 S1 R1 Q) : u_P L xs (n + 1) d M pc lc sc S R Q := by
  intro r σ h
  rw [g_run_step hen hs] at h
  exact k r σ h
theorem u_one {en : g_En} {pc1 : Nat} {lc1 : g_Lc} {sc1 : List Value} {S1 : v_Sf} {R1 : v_Rf} (hen : M.2.2.2.2.2 pc = some en) (hs : g_step d M.2.2.2.1 L xs en pc lc sc (v_mk v_ty S R) = some (pc1, lc1, sc1, v_mk v_ty S1 R1)) (k : u_P L xs n d M pc1 lc1 sc1 S1 R1 Q) : u_P L xs n d M pc lc sc S R Q := u_le (Nat.le_succ n) (u_one1 hen hs k)
theorem u_st {en : g_En} {pc1 : Nat} {lc1 : g_Lc} {sc1 : List Value} (hen : M.2.2.2.2.2 pc = some en) (hs : ∀ σ, g_step d M.2.2.2.1 L xs en pc lc sc σ = some (pc1, lc1, sc1, σ)) (k : u_P L xs n d M pc1 lc1 sc1 S R Q) : u_P L xs n d M pc lc sc S R Q := u_one hen (hs _) k
/-- the first instruction of a head: the counter goes down -/
theorem u_st1 {en : g_En} {pc1 : Nat} {lc1 : g_Lc} {sc1 : List Value} (hen : M.2.2.2.2.2 pc = some en) (hs : ∀ σ, g_step d M.2.2.2.1 L xs en pc lc sc σ = some (pc1, lc1, sc1, σ)) (k : ∀ m, m < n → u_P L xs m d M pc1 lc1 sc1 S R Q) : u_P L xs n d M pc lc sc S R Q := by
  cases n with
  | zero => exact u_zero
  | succ n => exact u_one1 hen (hs _) (k n (Nat.lt_succ_self n))
theorem u_br {en : g_En} {t f : Nat} {sc1 : List Value} {P : Prop} [hd : Decidable P] (hen : M.2.2.2.2.2 pc = some en) (hs : ∀ σ, g_step d M.2.2.2.1 L xs en pc lc sc σ = some (bif decide P then t else f, lc, sc1, σ)) (kt : P → u_P L xs n d M t lc sc1 S R Q) (kf : ¬ P → u_P L xs n d M f lc sc1 S R Q) : u_P L xs n d M pc lc sc S R Q := by
  by_cases h : P
  · refine u_one hen ?_ (kt h)
    rw [hs, decide_eq_true h]
    rfl
  · refine u_one hen ?_ (kf h)
    rw [hs, decide_eq_false h]
    rfl
theorem u_ret {en : g_En} {r : Option Value} (hen : M.2.2.2.2.2 pc = some en) (hr : g_rt en.1.1 M.2.2.2.2.1 sc = some r) (q : Q r S R) : u_P L xs n d M pc lc sc S R Q := by
  intro r2 σ h
  cases n with
  | zero => exact u_zero (Q := Q) r2 σ h
  | succ n =>
    rw [g_run_ret hen (g_step_ret hr) hr] at h
    cases h
    exact ⟨S, R, rfl, q⟩
theorem u_none {en : g_En} (hen : M.2.2.2.2.2 pc = some en) (h0 : g_step d M.2.2.2.1 L xs en pc lc sc (v_mk v_ty S R) = none) (h1 : g_rt en.1.1 M.2.2.2.2.1 sc = none) (h2 : g_ki en.1.1 = none) : u_P L xs n d M pc lc sc S R Q := by
  intro r σ h
  cases n with
  | zero => exact u_zero (Q := Q) r σ h
  | succ n =>
    have e : g_run g_mt L xs (n + 1) d M pc lc sc (v_mk v_ty S R) = none := by
      rw [g_run]
      simp only [hen, h0, h1, h2]
    rw [e] at h
    cases h
/-- an answer of a boolean -/
theorem u_retb {len x y : Nat} {z : Int} {v : Int32} (hen : M.2.2.2.2.2 pc = some ((.ireturn, len), x, y, z)) (hM : M.2.2.2.2.1 = some .boolean) (q : Q (some (.int v)) S R) : u_P L xs n d M pc lc [.int v] S R Q := by
  by_cases hn : narrow .boolean (.int v) = .int v
  · refine u_ret (r := some (.int v)) hen ?_ q
    rw [hM]
    simp only [g_rt]
    rw [if_pos hn]
  · refine u_none hen rfl ?_ rfl
    rw [hM]
    simp only [g_rt]
    rw [if_neg hn]
theorem u_sn {nL : Nat} {en : g_En} {σ : List g_Ce} (h0 : g_stk en.1.1 en.2.2.2 sc = none) (h1 : g_lcl nL en.1.1 lc sc = none) (h2 : g_jmp en.1.1 pc en.2.1 sc = none) (h : g_hp d L xs en.1.1 en.2.1 en.2.2.1 sc σ = none) : g_step d nL L xs en pc lc sc σ = none := by
  simp only [g_step, h0, h1, h2, h]
theorem u_get {i len ci y a : Nat} {z : Int} {fs : List v_Ft} {b : Int × Int} {t : List Value} (hen : M.2.2.2.2.2 pc = some ((.getfield i, len), ci, y, z)) (hg : v_ty a = some (.inr (.inr (ci, fs)))) (hf : fs[y]? = some (.inl b)) (k : u_P L xs n d M (pc + len) lc (.int (S a y) :: t) S R Q) : u_P L xs n d M pc lc (.ref (a + 1) :: t) S R Q := by
  refine u_one hen ?_ k
  refine g_st_hp (en := ((.getfield i, len), ci, y, z)) rfl rfl rfl (q := (.int (S a y) :: t, v_mk v_ty S R)) ?_
  have g1 := w_ty hg S R
  have g2 := v_fs_at (S := S) (R := R) (a := a) hf
  simp only [g_hp, g_gf, g1, v_cell, beq_self_eq_true, cond_true, g2]
  rfl
theorem u_getr {i len ci y a c : Nat} {z : Int} {fs : List v_Ft} {t : List Value} (hen : M.2.2.2.2.2 pc = some ((.getfield i, len), ci, y, z)) (hg : v_ty a = some (.inr (.inr (ci, fs)))) (hf : fs[y]? = some (.inr (.inl c))) (k : u_P L xs n d M (pc + len) lc (.ref c :: t) S R Q) : u_P L xs n d M pc lc (.ref (a + 1) :: t) S R Q := by
  refine u_one hen ?_ k
  refine g_st_hp (en := ((.getfield i, len), ci, y, z)) rfl rfl rfl (q := (.ref c :: t, v_mk v_ty S R)) ?_
  have g1 := w_ty hg S R
  have g2 := v_fs_at (S := S) (R := R) (a := a) hf
  simp only [g_hp, g_gf, g1, v_cell, beq_self_eq_true, cond_true, g2]
  rfl
theorem u_getv {i len ci y a c : Nat} {z : Int} {fs : List v_Ft} {l : List Nat} {t : List Value} (hen : M.2.2.2.2.2 pc = some ((.getfield i, len), ci, y, z)) (hg : v_ty a = some (.inr (.inr (ci, fs)))) (hf : fs[y]? = some (.inr (.inr l))) (hR : R a y = some c) (k : u_P L xs n d M (pc + len) lc (.ref c :: t) S R Q) : u_P L xs n d M pc lc (.ref (a + 1) :: t) S R Q := by
  refine u_one hen ?_ k
  refine g_st_hp (en := ((.getfield i, len), ci, y, z)) rfl rfl rfl (q := (.ref c :: t, v_mk v_ty S R)) ?_
  have g1 := w_ty hg S R
  have g2 := v_fs_at (S := S) (R := R) (a := a) hf
  simp only [g_hp, g_gf, g1, v_cell, beq_self_eq_true, cond_true, g2]
  simp only [v_fv, hR]
  rfl
theorem u_put {i len ci y a : Nat} {z : Int} {fs : List v_Ft} {b : Int × Int} {t : List Value} {v : Int32} (hen : M.2.2.2.2.2 pc = some ((.putfield i, len), ci, y, z)) (hg : v_ty a = some (.inr (.inr (ci, fs)))) (hf : fs[y]? = some (.inl b)) (k : u_P L xs n d M (pc + len) lc t (v_ur S a (upd (S a) y v)) R Q) : u_P L xs n d M pc lc (.int v :: .ref (a + 1) :: t) S R Q := by
  have g1 := w_ty hg S R
  have hl : y < (fs.mapIdx (fun j ft => v_fv S R a j ft)).length := by simpa using (List.getElem?_eq_some_iff.mp hf).1
  by_cases hc : narrow (g_ty ci y) (.int v) = .int v ∧ fits (g_ty ci y) (.int v) = true
  · refine u_one hen ?_ k
    refine g_st_hp (en := ((.putfield i, len), ci, y, z)) rfl rfl rfl (q := (t, v_mk v_ty (v_ur S a (upd (S a) y v)) R)) ?_
    simp only [g_hp, g_pf, g1, v_cell]
    rw [if_pos ⟨trivial, hl, hc.1, hc.2⟩, w_mkf hg hf]
  · refine u_none hen ?_ rfl rfl
    refine u_sn (en := ((.putfield i, len), ci, y, z)) rfl rfl rfl ?_
    simp only [g_hp, g_pf, g1, v_cell]
    rw [if_neg (fun h => hc ⟨h.2.2.1, h.2.2.2⟩)]
theorem u_putR {i len ci y a c : Nat} {z : Int} {fs : List v_Ft} {l : List Nat} {t : List Value} (hen : M.2.2.2.2.2 pc = some ((.putfield i, len), ci, y, z)) (hg : v_ty a = some (.inr (.inr (ci, fs)))) (hf : fs[y]? = some (.inr (.inr l))) (k : u_P L xs n d M (pc + len) lc t S (v_urr R a y c) Q) : u_P L xs n d M pc lc (.ref c :: .ref (a + 1) :: t) S R Q := by
  have g1 := w_ty hg S R
  have hl : y < (fs.mapIdx (fun j ft => v_fv S R a j ft)).length := by simpa using (List.getElem?_eq_some_iff.mp hf).1
  by_cases hc : narrow (g_ty ci y) (.ref c) = .ref c ∧ fits (g_ty ci y) (.ref c) = true
  · refine u_one hen ?_ k
    refine g_st_hp (en := ((.putfield i, len), ci, y, z)) rfl rfl rfl (q := (t, v_mk v_ty S (v_urr R a y c))) ?_
    simp only [g_hp, g_pf, g1, v_cell]
    have hm := v_mk_ref (X := (0, fun _ => 0, (v_ty, [], fun _ _ _ => true, fun _ _ => none, fun _ _ _ _ _ => none), fun _ => True, S, R)) hg hf S R c
    rw [if_pos ⟨trivial, hl, hc.1, hc.2⟩, hm]
  · refine u_none hen ?_ rfl rfl
    refine u_sn (en := ((.putfield i, len), ci, y, z)) rfl rfl rfl ?_
    simp only [g_hp, g_pf, g1, v_cell]
    rw [if_neg (fun h => hc ⟨h.2.2.1, h.2.2.2⟩)]
theorem u_iald {len x y a m : Nat} {z : Int} {b : Int × Int} {t : List Value} {i : Int32} (hen : M.2.2.2.2.2 pc = some ((.iaload, len), x, y, z)) (hg : v_ty a = some (.inl (0, m, b))) (k : 0 ≤ i.toInt → i.toInt < (m : Int) → u_P L xs n d M (pc + len) lc (.int (S a i.toInt.toNat) :: t) S R Q) : u_P L xs n d M pc lc (.int i :: .ref (a + 1) :: t) S R Q := by
  have g1 := w_ty hg S R
  by_cases hr : 0 ≤ i.toInt ∧ i.toInt < (m : Int)
  · refine u_one hen ?_ (k hr.1 hr.2)
    refine g_st_hp (en := ((.iaload, len), x, y, z)) rfl rfl rfl (q := (.int (S a i.toInt.toNat) :: t, v_mk v_ty S R)) ?_
    obtain ⟨o1, o2⟩ := q_in32 hr.1 hr.2
    simp only [g_hp, g_ia, g1, v_cell, o1, o2, cond_false]
  · refine u_none hen ?_ rfl rfl
    refine u_sn (en := ((.iaload, len), x, y, z)) rfl rfl rfl ?_
    simp only [g_hp, g_ia, g1, v_cell, u_outT hr, cond_true]
theorem u_bald {len x y a m tg : Nat} {z : Int} {b : Int × Int} {t : List Value} {i : Int32} (hen : M.2.2.2.2.2 pc = some ((.baload, len), x, y, z)) (hg : v_ty a = some (.inl (tg, m, b))) (htg : tg = 1 ∨ tg = 2) (k : 0 ≤ i.toInt → i.toInt < (m : Int) → u_P L xs n d M (pc + len) lc (.int (S a i.toInt.toNat) :: t) S R Q) : u_P L xs n d M pc lc (.int i :: .ref (a + 1) :: t) S R Q := by
  have g1 := w_ty hg S R
  by_cases hr : 0 ≤ i.toInt ∧ i.toInt < (m : Int)
  · refine u_one hen ?_ (k hr.1 hr.2)
    refine g_st_hp (en := ((.baload, len), x, y, z)) rfl rfl rfl (q := (.int (S a i.toInt.toNat) :: t, v_mk v_ty S R)) ?_
    obtain ⟨o1, o2⟩ := q_in32 hr.1 hr.2
    rcases htg with rfl | rfl
    · simp only [g_hp, g_ba, g1, v_cell, o1, o2, cond_false]
    · simp only [g_hp, g_ba, g1, v_cell, o1, o2, cond_false]
  · refine u_none hen ?_ rfl rfl
    refine u_sn (en := ((.baload, len), x, y, z)) rfl rfl rfl ?_
    rcases htg with rfl | rfl
    · simp only [g_hp, g_ba, g1, v_cell, u_outT hr, cond_true]
    · simp only [g_hp, g_ba, g1, v_cell, u_outT hr, cond_true]
theorem u_iast {len x y a m : Nat} {z : Int} {b : Int × Int} {t : List Value} {i v : Int32} (hen : M.2.2.2.2.2 pc = some ((.iastore, len), x, y, z)) (hg : v_ty a = some (.inl (0, m, b))) (k : 0 ≤ i.toInt → i.toInt < (m : Int) → u_P L xs n d M (pc + len) lc t (v_ur S a (upd (S a) i.toInt.toNat v)) R Q) : u_P L xs n d M pc lc (.int v :: .int i :: .ref (a + 1) :: t) S R Q := by
  have g1 := w_ty hg S R
  by_cases hr : 0 ≤ i.toInt ∧ i.toInt < (m : Int)
  · refine u_one hen ?_ (k hr.1 hr.2)
    refine g_st_hp (en := ((.iastore, len), x, y, z)) rfl rfl rfl (q := (t, v_mk v_ty (v_ur S a (upd (S a) i.toInt.toNat v)) R)) ?_
    obtain ⟨o1, o2⟩ := q_in32 hr.1 hr.2
    simp only [g_hp, g_is, g1, v_cell, o1, o2, cond_false]
    rw [w_mkr hg]
  · refine u_none hen ?_ rfl rfl
    refine u_sn (en := ((.iastore, len), x, y, z)) rfl rfl rfl ?_
    simp only [g_hp, g_is, g1, v_cell, u_outT hr, cond_true]
/-- bytes (tag 1) and booleans (tag 2) are narrowed as they are written -/
noncomputable def u_nar (tg : Nat) (v : Int32) : Int32 := bif Nat.beq tg 1 then vp_nar .byte v else vp_nar .boolean v
theorem u_bast {len x y a m tg : Nat} {z : Int} {b : Int × Int} {t : List Value} {i v : Int32} (hen : M.2.2.2.2.2 pc = some ((.bastore, len), x, y, z)) (hg : v_ty a = some (.inl (tg, m, b))) (htg : tg = 1 ∨ tg = 2) (k : 0 ≤ i.toInt → i.toInt < (m : Int) → u_P L xs n d M (pc + len) lc t (v_ur S a (upd (S a) i.toInt.toNat (u_nar tg v))) R Q) : u_P L xs n d M pc lc (.int v :: .int i :: .ref (a + 1) :: t) S R Q := by
  have g1 := w_ty hg S R
  by_cases hr : 0 ≤ i.toInt ∧ i.toInt < (m : Int)
  · refine u_one hen ?_ (k hr.1 hr.2)
    refine g_st_hp (en := ((.bastore, len), x, y, z)) rfl rfl rfl (q := (t, v_mk v_ty (v_ur S a (upd (S a) i.toInt.toNat (u_nar tg v))) R)) ?_
    obtain ⟨o1, o2⟩ := q_in32 hr.1 hr.2
    rcases htg with rfl | rfl
    · simp only [g_hp, g_bs, g1, v_cell, o1, o2, cond_false]
      rw [w_mkr hg]
      rfl
    · simp only [g_hp, g_bs, g1, v_cell, o1, o2, cond_false]
      rw [w_mkr hg]
      rfl
  · refine u_none hen ?_ rfl rfl
    refine u_sn (en := ((.bastore, len), x, y, z)) rfl rfl rfl ?_
    rcases htg with rfl | rfl
    · simp only [g_hp, g_bs, g1, v_cell, u_outT hr, cond_true]
    · simp only [g_hp, g_bs, g1, v_cell, u_outT hr, cond_true]
theorem u_aald {len x y a : Nat} {z : Int} {l : List Nat} {t : List Value} {i : Int32} (hen : M.2.2.2.2.2 pc = some ((.aaload, len), x, y, z)) (hg : v_ty a = some (.inr (.inl l))) (k : 0 ≤ i.toInt → i.toInt < (l.length : Int) → u_P L xs n d M (pc + len) lc (va_rf (R a i.toInt.toNat) :: t) S R Q) : u_P L xs n d M pc lc (.int i :: .ref (a + 1) :: t) S R Q := by
  have g1 := w_ty hg S R
  by_cases hr : 0 ≤ i.toInt ∧ i.toInt < (l.length : Int)
  · refine u_one hen ?_ (k hr.1 hr.2)
    refine g_st_hp (en := ((.aaload, len), x, y, z)) rfl rfl rfl (q := (va_rf (R a i.toInt.toNat) :: t, v_mk v_ty S R)) ?_
    obtain ⟨o1, o2⟩ := q_in32 hr.1 hr.2
    simp only [g_hp, g_aa, g1, v_cell, o1, o2, cond_false]
  · refine u_none hen ?_ rfl rfl
    refine u_sn (en := ((.aaload, len), x, y, z)) rfl rfl rfl ?_
    simp only [g_hp, g_aa, g1, v_cell, u_outT hr, cond_true]
theorem u_al {len x y a m tg : Nat} {z : Int} {b : Int × Int} {t : List Value} (hen : M.2.2.2.2.2 pc = some ((.arraylength, len), x, y, z)) (hg : v_ty a = some (.inl (tg, m, b))) (ht : decide (tg < 4) = true) (k : u_P L xs n d M (pc + len) lc (.int (Int32.ofNat m) :: t) S R Q) : u_P L xs n d M pc lc (.ref (a + 1) :: t) S R Q := by
  refine u_one hen ?_ k
  refine g_st_hp (en := ((.arraylength, len), x, y, z)) rfl rfl rfl (q := (.int (Int32.ofNat m) :: t, v_mk v_ty S R)) ?_
  have g1 := w_ty hg S R
  simp only [g_hp, g_al, g1, v_cell]
  rw [if_pos (of_decide_eq_true ht)]
theorem u_alr {len x y a : Nat} {z : Int} {l : List Nat} {t : List Value} (hen : M.2.2.2.2.2 pc = some ((.arraylength, len), x, y, z)) (hg : v_ty a = some (.inr (.inl l))) (k : u_P L xs n d M (pc + len) lc (.int (Int32.ofNat l.length) :: t) S R Q) : u_P L xs n d M pc lc (.ref (a + 1) :: t) S R Q := by
  refine u_one hen ?_ k
  refine g_st_hp (en := ((.arraylength, len), x, y, z)) rfl rfl rfl (q := (.int (Int32.ofNat l.length) :: t, v_mk v_ty S R)) ?_
  have g1 := w_ty hg S R
  simp only [g_hp, g_al, g1, v_cell]
  rw [if_pos (by decide)]
theorem u_irem {len x y : Nat} {z : Int} {t : List Value} {a b : Int32} (hen : M.2.2.2.2.2 pc = some ((.irem, len), x, y, z)) (k : ¬ b = 0 → u_P L xs n d M (pc + len) lc (.int (a - a / b * b) :: t) S R Q) : u_P L xs n d M pc lc (.int b :: .int a :: t) S R Q := by
  by_cases hb : b = 0
  · refine u_none hen ?_ rfl rfl
    refine u_sn (en := ((.irem, len), x, y, z)) ?_ rfl rfl rfl
    simp only [g_stk, g_d2, if_pos hb]
  · refine u_one hen (g_st_stk (en := ((.irem, len), x, y, z)) ?_) (k hb)
    simp only [g_stk, g_d2, if_neg hb]
theorem u_idiv {len x y : Nat} {z : Int} {t : List Value} {a b : Int32} (hen : M.2.2.2.2.2 pc = some ((.idiv, len), x, y, z)) (k : ¬ b = 0 → u_P L xs n d M (pc + len) lc (.int (a / b) :: t) S R Q) : u_P L xs n d M pc lc (.int b :: .int a :: t) S R Q := by
  by_cases hb : b = 0
  · refine u_none hen ?_ rfl rfl
    refine u_sn (en := ((.idiv, len), x, y, z)) ?_ rfl rfl rfl
    simp only [g_stk, g_d2, if_pos hb]
  · refine u_one hen (g_st_stk (en := ((.idiv, len), x, y, z)) ?_) (k hb)
    simp only [g_stk, g_d2, if_neg hb]
/-- a macro that isn't done: nothing comes of it -/
theorem u_mno {ix len x y : Nat} {z : Int} (hen : M.2.2.2.2.2 pc = some ((.invokestatic ix, len), x, y, z)) (hx : 301 ≤ x) (hx9 : (x == 99999) = false) (h : g_nv d x sc (v_mk v_ty S R) = none) : u_P L xs n d M pc lc sc S R Q := by
  intro r σ hr
  cases n with
  | zero => exact u_zero (Q := Q) r σ hr
  | succ n =>
    have h0 : g_step d M.2.2.2.1 L xs ((.invokestatic ix, len), x, y, z) pc lc sc (v_mk v_ty S R) = none := u_sn (en := ((.invokestatic ix, len), x, y, z)) rfl rfl rfl h
    have h1 : g_rt (.invokestatic ix) M.2.2.2.2.1 sc = none := rfl
    have h2 : g_ki (.invokestatic ix) = some 0 := rfl
    have e : g_run g_mt L xs (n + 1) d M pc lc sc (v_mk v_ty S R) = none := by
      rw [g_run]
      cases d with
      | zero => simp only [hen, h0, h1, h2]
      | succ d => simp only [hen, h0, h1, h2, hx9, cond_false, g_mt_big hx]
    rw [e] at hr
    cases hr
theorem u_m2 {ix len x y : Nat} {z : Int} {t : List Value} {a b : Int32} {f : Int32 → Int32 → Int32} (hen : M.2.2.2.2.2 pc = some ((.invokestatic ix, len), x, y, z)) (hx : 301 ≤ x) (hx9 : (x == 99999) = false) (hf : ∀ σ, g_nv d x (.int b :: .int a :: t) σ = g_m2 d f (.int b :: .int a :: t) σ) (k : u_P L xs n d M (pc + len) lc (.int (f a b) :: t) S R Q) : u_P L xs n d M pc lc (.int b :: .int a :: t) S R Q := by
  by_cases hc : g_cat t ≤ 8 ∧ 0 < d
  · refine u_one hen (g_st_hp (en := ((.invokestatic ix, len), x, y, z)) rfl rfl rfl (q := (.int (f a b) :: t, v_mk v_ty S R)) ?_) k
    show g_nv d x (.int b :: .int a :: t) (v_mk v_ty S R) = _
    rw [hf]
    simp only [g_m2]
    rw [if_pos hc]
  · refine u_mno hen hx hx9 ?_
    rw [hf]
    simp only [g_m2]
    rw [if_neg hc]
theorem u_max {ix len y : Nat} {z : Int} {t : List Value} {a b : Int32} (hen : M.2.2.2.2.2 pc = some ((.invokestatic ix, len), 99997, y, z)) (k : u_P L xs n d M (pc + len) lc (.int (if a < b then b else a) :: t) S R Q) : u_P L xs n d M pc lc (.int b :: .int a :: t) S R Q := u_m2 (f := fun a b => if a < b then b else a) hen (by decide) rfl (fun _ => rfl) k
theorem u_min {ix len y : Nat} {z : Int} {t : List Value} {a b : Int32} (hen : M.2.2.2.2.2 pc = some ((.invokestatic ix, len), 99996, y, z)) (k : u_P L xs n d M (pc + len) lc (.int (if b < a then b else a) :: t) S R Q) : u_P L xs n d M pc lc (.int b :: .int a :: t) S R Q := u_m2 (f := fun a b => if b < a then b else a) hen (by decide) rfl (fun _ => rfl) k
theorem u_abs {ix len y : Nat} {z : Int} {t : List Value} {a : Int32} (hen : M.2.2.2.2.2 pc = some ((.invokestatic ix, len), 99995, y, z)) (k : u_P L xs n d M (pc + len) lc (.int (if 0 ≤ a then a else 0 - a) :: t) S R Q) : u_P L xs n d M pc lc (.int a :: t) S R Q := by
  have hf : ∀ σ, g_nv d 99995 (.int a :: t) σ = g_m1 d (fun a => if 0 ≤ a then a else 0 - a) (.int a :: t) σ := fun _ => rfl
  by_cases hc : g_cat t ≤ 8 ∧ 0 < d
  · refine u_one hen (g_st_hp (en := ((.invokestatic ix, len), 99995, y, z)) rfl rfl rfl (q := (.int (if 0 ≤ a then a else 0 - a) :: t, v_mk v_ty S R)) ?_) k
    show g_nv d 99995 (.int a :: t) (v_mk v_ty S R) = _
    rw [hf]
    simp only [g_m1]
    rw [if_pos hc]
  · refine u_mno hen (by decide) rfl ?_
    rw [hf]
    simp only [g_m1]
    rw [if_neg hc]
/-- System.arraycopy from and to the first places -/
theorem u_cp {ix len y a a0 n0 n1 : Nat} {z : Int} {b b0 : Int × Int} {t : List Value} {v : Int32} (hen : M.2.2.2.2.2 pc = some ((.invokestatic ix, len), 99998, y, z)) (hg0 : v_ty a0 = some (.inl (0, n0, b0))) (hg : v_ty a = some (.inl (0, n1, b))) (k : 0 ≤ v.toInt → v.toInt ≤ (n0 : Int) → v.toInt ≤ (n1 : Int) → u_P L xs n d M (pc + len) lc t (v_ur S a (fun j => if j < v.toInt.toNat then S a0 j else S a j)) R Q) : u_P L xs n d M pc lc (.int v :: .int (Int32.ofInt 0) :: .ref (a + 1) :: .int (Int32.ofInt 0) :: .ref (a0 + 1) :: t) S R Q := by
  have g1 := w_ty hg S R
  have g0 := w_ty hg0 S R
  have hf : ∀ st σ, g_nv d 99998 st σ = g_cp d st σ := fun _ _ => rfl
  have z0 : ¬ (Int32.ofInt 0 < 0) := by decide
  have zc : (Int32.ofInt 0).toNatClampNeg = 0 := rfl
  have e2 : v.toNatClampNeg = v.toInt.toNat := rfl
  by_cases hc : ¬ Int32.ofInt 0 < 0 ∧ ¬ Int32.ofInt 0 < 0 ∧ ¬ v < 0 ∧ (Int32.ofInt 0).toNatClampNeg + v.toNatClampNeg ≤ n0 ∧ (Int32.ofInt 0).toNatClampNeg + v.toNatClampNeg ≤ n1 ∧ g_cat t ≤ 8 ∧ 0 < d
  · obtain ⟨_, _, c3, c4, c5, _, _⟩ := id hc
    rw [q_lt32] at c3
    have e : (0 : Int32).toInt = 0 := rfl
    rw [zc, e2] at c4 c5
    have fe : va_cpy (S a0) (S a) (Int32.ofInt 0).toNatClampNeg (Int32.ofInt 0).toNatClampNeg v.toNatClampNeg = (fun j => if j < v.toInt.toNat then S a0 j else S a j) := by
      funext j
      simp only [va_cpy, zc, e2]
      by_cases hj : j < v.toInt.toNat
      · simp [hj]
      · simp [hj]
    refine u_one hen (g_st_hp (en := ((.invokestatic ix, len), 99998, y, z)) rfl rfl rfl (q := (t, v_mk v_ty (v_ur S a (fun j => if j < v.toInt.toNat then S a0 j else S a j)) R)) ?_) (k (by omega) (by omega) (by omega))
    show g_nv d 99998 _ (v_mk v_ty S R) = _
    rw [hf]
    simp only [g_cp, g0, g1, v_cell]
    rw [if_pos hc, w_mkr hg, fe]
  · refine u_mno hen (by decide) rfl ?_
    rw [hf]
    simp only [g_cp, g0, g1, v_cell]
    rw [if_neg hc]
/-- a call: the callee's own word, then what is behind -/
theorem u_call {ins : Instr} {len x y kk : Nat} {z : Int} {M' : g_M} {ac rest : List Value} {Qc : Option Value → v_Sf → v_Rf → Prop} (hen : M.2.2.2.2.2 pc = some ((ins, len), x, y, z)) (h0 : ∀ d, g_step (d + 1) M.2.2.2.1 L xs ((ins, len), x, y, z) pc lc sc (v_mk v_ty S R) = none) (hrt : g_rt ins M.2.2.2.2.1 sc = none) (hki : g_ki ins = some kk) (hst0 : g_step 0 M.2.2.2.1 L xs ((ins, len), x, y, z) pc lc sc (v_mk v_ty S R) = none) (hx9 : (x == 99999) = false) (hM : g_mt x = some M') (hc : g_cl kk y M'.1 sc (v_mk v_ty S R) = some (ac, rest)) (h1 : g_cat rest ≤ 8) (h2 : (lg_sl ac).length ≤ M'.2.2.2.1) (hq : ∀ d', u_P L xs n d' M' 0 (lv_args 0 ac) [] S R Qc) (k : ∀ r S1 R1, Qc r S1 R1 → u_P L xs n d M (pc + 3) lc (r.toList ++ rest) S1 R1 Q) : u_P L xs n d M pc lc sc S R Q := by
  intro r σ hr
  cases n with
  | zero => exact u_zero (Q := Q) r σ hr
  | succ n =>
    cases d with
    | zero =>
      exfalso
      have e : g_run g_mt L xs (n + 1) 0 M pc lc sc (v_mk v_ty S R) = none := by
        rw [g_run]
        simp only [hen, hst0, hrt, hki]
      rw [e] at hr
      cases hr
    | succ d' =>
      cases hw : g_run g_mt L xs n d' M' 0 (lv_args 0 ac) [] (v_mk v_ty S R) with
      | none =>
        exfalso
        have e6 : decide (g_cat rest ≤ 8) = true := by simpa using h1
        have e7 : decide ((lg_sl ac).length ≤ M'.2.2.2.1) = true := by simpa using h2
        have e : g_run g_mt L xs (n + 1) (d' + 1) M pc lc sc (v_mk v_ty S R) = none := by
          rw [g_run]
          simp only [hen, h0 d', hrt, hki, hx9, hM, hc, e6, e7, hw, cond_false, cond_true, Bool.and_self]
        rw [e] at hr
        cases hr
      | some w =>
        obtain ⟨rv, σ1⟩ := w
        obtain ⟨S1, R1, e1, q1⟩ := hq d' rv σ1 (g_run_n L xs _ _ _ _ _ _ _ _ hw)
        rw [g_run_call hen (h0 d') hrt hki hx9 hM hc h1 h2 hw, e1] at hr
        exact k rv S1 R1 q1 r σ (g_run_n L xs _ _ _ _ _ _ _ _ hr)
theorem u_cs {ix len x y : Nat} {z : Int} {M' : g_M} {ac rest : List Value} {Qc : Option Value → v_Sf → v_Rf → Prop} (hen : M.2.2.2.2.2 pc = some ((.invokestatic ix, len), x, y, z)) (hx : x < 77777) (hM : g_mt x = some M') (hc : ∀ σ, g_cl 0 y M'.1 sc σ = some (ac, rest)) (h1 : g_cat rest ≤ 8) (h2 : (lg_sl ac).length ≤ M'.2.2.2.1) (hq : ∀ d', u_P L xs n d' M' 0 (lv_args 0 ac) [] S R Qc) (k : ∀ r S1 R1, Qc r S1 R1 → u_P L xs n d M (pc + 3) lc (r.toList ++ rest) S1 R1 Q) : u_P L xs n d M pc lc sc S R Q := by
  have hx9 : (x == 99999) = false := by simp; omega
  have h0 : ∀ d, g_step d M.2.2.2.1 L xs ((.invokestatic ix, len), x, y, z) pc lc sc (v_mk v_ty S R) = none := by
    intro d
    show (match g_nv d x sc (v_mk v_ty S R) with
      | some q => _
      | none => none) = none
    rw [g_nv_none hx]
  exact u_call hen (fun d => h0 (d + 1)) rfl rfl (h0 0) hx9 hM (hc _) h1 h2 hq k
theorem u_cv {ix len x y a ci : Nat} {z : Int} {M' : g_M} {q : vw_C} {fs : List v_Ft} {rest : List Value} {Qc : Option Value → v_Sf → v_Rf → Prop} (hen : M.2.2.2.2.2 pc = some ((.invokevirtual ix, len), x, y, z)) (hx : x < 77777) (hM : g_mt x = some M') (hg : v_ty a = some (.inr (.inr (ci, fs)))) (hq0 : vwCl[ci]? = some q) (how : q.1 = M'.1) (hdr : sc.drop y = .ref (a + 1) :: rest) (hle : y ≤ sc.length) (h1 : g_cat rest ≤ 8) (h2 : (lg_sl (.ref (a + 1) :: (sc.take y).reverse)).length ≤ M'.2.2.2.1) (hq : ∀ d', u_P L xs n d' M' 0 (lv_args 0 (.ref (a + 1) :: (sc.take y).reverse)) [] S R Qc) (k : ∀ r S1 R1, Qc r S1 R1 → u_P L xs n d M (pc + 3) lc (r.toList ++ rest) S1 R1 Q) : u_P L xs n d M pc lc sc S R Q := by
  have hx9 : (x == 99999) = false := by simp; omega
  have g1 := w_ty hg S R
  have hc : g_cl 1 y M'.1 sc (v_mk v_ty S R) = some (.ref (a + 1) :: (sc.take y).reverse, rest) := by
    simp only [g_cl, hdr, g1, v_cell, hq0]
    rw [if_pos ⟨how, hle⟩]
  exact u_call hen (fun _ => rfl) rfl rfl rfl hx9 hM hc h1 h2 hq k
theorem u_lc {a b : g_Lc} (h1 : g_nd a) (h2 : g_nd b) (h3 : ∀ i, g_get a i = g_get b i) (k : u_P L xs n d M pc b sc S R Q) : u_P L xs n d M pc a sc S R Q := by
  intro r σ h
  rw [g_run_lc L xs _ _ _ _ a b _ _ ⟨h1, h2, h3⟩] at h
  exact k r σ h
end UPA
/-- a run that ends, and what holds of it if it ends -/
theorem u_use {L : Nat} {xs : Nat → Int32} {n d : Nat} {M : g_M} {pc : Nat} {lc : g_Lc} {sc : List Value} {S : v_Sf} {R : v_Rf} {Q : Option Value → v_Sf → v_Rf → Prop} {r : Option Value} {S1 : v_Sf} {R1 : v_Rf} (h : g_run g_mt L xs n d M pc lc sc (v_mk v_ty S R) = some (r, v_mk v_ty S1 R1)) (k : u_P L xs n d M pc lc sc S R Q) : ∃ S2 R2, v_mk v_ty S1 R1 = v_mk v_ty S2 R2 ∧ Q r S2 R2 := k r _ h
end PrtS42a
section PrtS42b
/-! words for partial roads: stores, answers, the kinds of cells that a method may be given -/
noncomputable def z_s (S : v_Sf) (a i : Nat) (v : Int32) : v_Sf := v_ur S a (upd (S a) i v)
noncomputable def z_cp (S : v_Sf) (a0 a : Nat) (m : Int32) : v_Sf := v_ur S a (fun j => if j < m.toInt.toNat then S a0 j else S a j)
noncomputable def z_max (a b : Int32) : Int32 := if a < b then b else a
noncomputable def z_min (a b : Int32) : Int32 := if b < a then b else a
noncomputable def z_abs (a : Int32) : Int32 := if 0 ≤ a then a else 0 - a
theorem z_s_eq (S : v_Sf) (a i : Nat) (v : Int32) (a' j : Nat) : z_s S a i v a' j = if a' = a ∧ j = i then v else S a' j := by
  by_cases h : a' = a ∧ j = i
  · rw [if_pos h, h.1, h.2]
    exact w_urs
  · rw [if_neg h]
    exact w_urn h
theorem z_cp_eq (S : v_Sf) (a0 a : Nat) (m : Int32) (a' j : Nat) : z_cp S a0 a m a' j = if a' = a ∧ j < m.toInt.toNat then S a0 j else S a' j := by
  unfold z_cp v_ur
  by_cases h : a' = a
  · subst h
    by_cases h2 : j < m.toInt.toNat
    · simp [h2]
    · simp [h2]
  · simp [h]
/-- an answer, the references as they were -/
noncomputable def z_Q (R : v_Rf) (K : Int32 → v_Sf → Prop) (r : Option Value) (S' : v_Sf) (R' : v_Rf) : Prop := ∃ v, some (.int v) = r ∧ R = R' ∧ K v S'
noncomputable def z_V (R : v_Rf) (K : v_Sf → Prop) (r : Option Value) (S' : v_Sf) (R' : v_Rf) : Prop := none = r ∧ R = R' ∧ K S'
noncomputable def z_st (s : Nat) : Prop := s = 1 ∨ s = 11 ∨ s = 21
noncomputable def z_wd (q : Nat) : Prop := ∃ k, k < 6 ∧ q = 33 + 2 * k
noncomputable def z_cd (c : Nat) : Prop := c = 52 ∨ c = 59 ∨ c = 67
noncomputable def z_W (R : v_Rf) : Prop := ∀ i, i < 6 → R 32 i = some (33 + 2 * i + 1)
theorem z_lt6 {i : Int32} (h1 : 0 ≤ i.toInt) (h2 : i.toInt < ((6 : Nat) : Int)) : i.toInt.toNat < 6 := by omega
theorem z_wdi {i : Int32} (h1 : 0 ≤ i.toInt) (h2 : i.toInt < ((6 : Nat) : Int)) : z_wd (33 + 2 * i.toInt.toNat) := ⟨i.toInt.toNat, by omega, rfl⟩
noncomputable abbrev z_any : Int × Int := ((-2147483648), 2147483647)
theorem z_st0 {s : Nat} (h : z_st s) : v_ty s = some (.inr (.inr (7, [.inl z_any, .inr (.inl (s + 2)), .inr (.inl (s + 3)), .inr (.inl (s + 4)), .inr (.inl (s + 5)), .inr (.inl (s + 6)), .inr (.inl (s + 7)), .inl z_any, .inr (.inl (s + 8)), .inr (.inl (s + 9)), .inr (.inl (s + 10)), .inl z_any, .inl z_any, .inl z_any, .inl z_any]))) := by
  rcases h with rfl | rfl | rfl <;> rfl
theorem z_st1 {s : Nat} (h : z_st s) : v_ty (s + 1) = some (.inl (0, 12, z_any)) := by rcases h with rfl | rfl | rfl <;> rfl
theorem z_st2 {s : Nat} (h : z_st s) : v_ty (s + 2) = some (.inl (0, 12, z_any)) := by rcases h with rfl | rfl | rfl <;> rfl
theorem z_st3 {s : Nat} (h : z_st s) : v_ty (s + 3) = some (.inl (0, 12, z_any)) := by rcases h with rfl | rfl | rfl <;> rfl
theorem z_st4 {s : Nat} (h : z_st s) : v_ty (s + 4) = some (.inl (0, 12, z_any)) := by rcases h with rfl | rfl | rfl <;> rfl
theorem z_st5 {s : Nat} (h : z_st s) : v_ty (s + 5) = some (.inl (0, 12, z_any)) := by rcases h with rfl | rfl | rfl <;> rfl
theorem z_st6 {s : Nat} (h : z_st s) : v_ty (s + 6) = some (.inl (0, 12, z_any)) := by rcases h with rfl | rfl | rfl <;> rfl
theorem z_st7 {s : Nat} (h : z_st s) : v_ty (s + 7) = some (.inl (0, 5, z_any)) := by rcases h with rfl | rfl | rfl <;> rfl
theorem z_st8 {s : Nat} (h : z_st s) : v_ty (s + 8) = some (.inl (0, 5, z_any)) := by rcases h with rfl | rfl | rfl <;> rfl
theorem z_st9 {s : Nat} (h : z_st s) : v_ty (s + 9) = some (.inl (0, 6, z_any)) := by rcases h with rfl | rfl | rfl <;> rfl
theorem z_wd0 {q : Nat} (h : z_wd q) : v_ty q = some (.inr (.inr (9, [.inr (.inl (q + 2)), .inl (0, 48), .inl z_any, .inl z_any, .inl z_any]))) := by
  obtain ⟨k, hk, rfl⟩ := h
  match k, hk with
  | 0, _ => rfl
  | 1, _ => rfl
  | 2, _ => rfl
  | 3, _ => rfl
  | 4, _ => rfl
  | 5, _ => rfl
theorem z_wd1 {q : Nat} (h : z_wd q) : v_ty (q + 1) = some (.inl (0, 48, z_any)) := by
  obtain ⟨k, hk, rfl⟩ := h
  match k, hk with
  | 0, _ => rfl
  | 1, _ => rfl
  | 2, _ => rfl
  | 3, _ => rfl
  | 4, _ => rfl
  | 5, _ => rfl
theorem z_cd0 {c : Nat} (h : z_cd c) : v_ty c = some (.inr (.inr (1, [.inr (.inl (c + 2)), .inr (.inl (c + 3)), .inr (.inl (c + 4)), .inr (.inl (c + 5)), .inr (.inl (c + 6)), .inr (.inl (c + 7)), .inl (0, 256), .inl (0, 16)]))) := by
  rcases h with rfl | rfl | rfl <;> rfl
theorem z_cd1 {c : Nat} (h : z_cd c) : v_ty (c + 1) = some (.inl (0, 256, z_any)) := by rcases h with rfl | rfl | rfl <;> rfl
theorem z_cd2 {c : Nat} (h : z_cd c) : v_ty (c + 2) = some (.inl (0, 256, z_any)) := by rcases h with rfl | rfl | rfl <;> rfl
theorem z_cd3 {c : Nat} (h : z_cd c) : v_ty (c + 3) = some (.inl (0, 32, z_any)) := by rcases h with rfl | rfl | rfl <;> rfl
theorem z_cd4 {c : Nat} (h : z_cd c) : v_ty (c + 4) = some (.inl (0, 16, z_any)) := by rcases h with rfl | rfl | rfl <;> rfl
theorem z_cd5 {c : Nat} (h : z_cd c) : v_ty (c + 5) = some (.inl (0, 16, z_any)) := by rcases h with rfl | rfl | rfl <;> rfl
theorem z_cd6 {c : Nat} (h : z_cd c) : v_ty (c + 6) = some (.inl (0, 16, z_any)) := by rcases h with rfl | rfl | rfl <;> rfl
theorem z_ne {V : Int32} {k : Int} (h : ¬ V = Int32.ofInt k) : ¬ V.toInt = k := fun e => h (by rw [← e, Int32.ofInt_toInt])
theorem z_en {V : Int32} {k : Int} (h : ¬ V = Int32.ofInt k) : ¬ k = V.toInt := fun e => h (by rw [e, Int32.ofInt_toInt])
section UJ
variable {L : Nat} {xs : Nat → Int32} {n d : Nat} {M : g_M} {pc : Nat} {lc : g_Lc} {sc : List Value} {S : v_Sf} {R : v_Rf} {Q : Option Value → v_Sf → v_Rf → Prop}
theorem u_jm {en : g_En} {t : Nat} {sc1 : List Value} (hen : M.2.2.2.2.2 pc = some en) (h0 : g_stk en.1.1 en.2.2.2 sc = none) (h1 : g_lcl M.2.2.2.1 en.1.1 lc sc = none) (hj : g_jmp en.1.1 pc en.2.1 sc = some (t, sc1)) (k : u_P L xs n d M t lc sc1 S R Q) : u_P L xs n d M pc lc sc S R Q := u_one hen (g_st_jmp h0 h1 hj) k
end UJ
theorem z_lies (L : Nat) (xs : Nat → Int32) (n d : Nat) (a b c : Int64) (S : v_Sf) (R : v_Rf) : u_P L xs n d m_X12_lies 0 (lv_args 0 [.long a, .long b, .long c]) [] S R (z_Q R (fun v S1 => p_b (decide (b.toInt ≤ a.toInt ∧ a.toInt ≤ c.toInt)) = v ∧ S = S1)) := by
  have e0 : (0 : Int32).toInt = 0 := rfl
  show u_P L xs n d m_X12_lies 0 [(0, .long a), (2, .long b), (4, .long c)] [] S R _
  refine u_st rfl (fun _ => rfl) ?_
  refine u_st rfl (fun _ => rfl) ?_
  refine u_st rfl (fun _ => rfl) ?_
  show u_P L xs n d m_X12_lies 3 [(0, .long a), (2, .long b), (4, .long c)] [.int (lg_cmp a b)] S R _
  refine u_br (P := lg_cmp a b < 0) rfl (fun _ => rfl) (fun h1 => ?_) (fun h1 => ?_)
  · show u_P L xs n d m_X12_lies 17 [(0, .long a), (2, .long b), (4, .long c)] [] S R _
    refine u_st rfl (fun _ => rfl) ?_
    rw [lg_n] at h1
    exact u_retb rfl rfl ⟨_, rfl, rfl, by rw [decide_eq_false (by omega)]; rfl, rfl⟩
  · show u_P L xs n d m_X12_lies 6 [(0, .long a), (2, .long b), (4, .long c)] [] S R _
    refine u_st rfl (fun _ => rfl) ?_
    refine u_st rfl (fun _ => rfl) ?_
    refine u_st rfl (fun _ => rfl) ?_
    show u_P L xs n d m_X12_lies 10 [(0, .long a), (2, .long b), (4, .long c)] [.int (lg_cmp a c)] S R _
    refine u_br (P := 0 < lg_cmp a c) rfl (fun _ => rfl) (fun h2 => ?_) (fun h2 => ?_)
    · show u_P L xs n d m_X12_lies 17 [(0, .long a), (2, .long b), (4, .long c)] [] S R _
      refine u_st rfl (fun _ => rfl) ?_
      rw [lg_n] at h1
      rw [lg_p] at h2
      exact u_retb rfl rfl ⟨_, rfl, rfl, by rw [decide_eq_false (by omega)]; rfl, rfl⟩
    · show u_P L xs n d m_X12_lies 13 [(0, .long a), (2, .long b), (4, .long c)] [] S R _
      refine u_st rfl (fun _ => rfl) ?_
      refine u_st rfl (fun _ => rfl) ?_
      rw [lg_n] at h1
      rw [lg_p] at h2
      exact u_retb rfl rfl ⟨_, rfl, rfl, by rw [decide_eq_true (by omega)]; rfl, rfl⟩
noncomputable def z_in (x : Int32) (lo hi : Int) : Int32 := p_b (decide (lo ≤ x.toInt ∧ x.toInt ≤ hi))
theorem z_liesC (L : Nat) (xs : Nat → Int32) (n d : Nat) (x : Int32) (b c : Int64) {lo hi : Int} (hb : b.toInt = lo) (hc : c.toInt = hi) (S : v_Sf) (R : v_Rf) : u_P L xs n d m_X12_lies 0 (lv_args 0 [.long x.toInt64, .long b, .long c]) [] S R (z_Q R (fun v S1 => z_in x lo hi = v ∧ S = S1)) := by
  have h := z_lies L xs n d x.toInt64 b c S R
  rw [q_i2l, hb, hc] at h
  exact h
section UB
variable {L : Nat} {xs : Nat → Int32} {n d : Nat} {M : g_M} {pc : Nat} {lc : g_Lc} {t : List Value} {S : v_Sf} {R : v_Rf} {Q : Option Value → v_Sf → v_Rf → Prop} {len x y : Nat} {z : Int} {a b : Int32}
theorem u_if_eq {o : Int} (hen : M.2.2.2.2.2 pc = some ((.ifCond .eq o, len), x, y, z)) (kt : a = 0 → u_P L xs n d M x lc t S R Q) (kf : ¬ (a = 0) → u_P L xs n d M (pc + 3) lc t S R Q) : u_P L xs n d M pc lc (.int a :: t) S R Q := u_br (P := a = 0) hen (fun _ => rfl) kt kf
theorem u_if_ne {o : Int} (hen : M.2.2.2.2.2 pc = some ((.ifCond .ne o, len), x, y, z)) (kt : ¬ a = 0 → u_P L xs n d M x lc t S R Q) (kf : ¬ (¬ a = 0) → u_P L xs n d M (pc + 3) lc t S R Q) : u_P L xs n d M pc lc (.int a :: t) S R Q := u_br (P := ¬ a = 0) hen (fun _ => rfl) kt kf
theorem u_if_lt {o : Int} (hen : M.2.2.2.2.2 pc = some ((.ifCond .lt o, len), x, y, z)) (kt : a < 0 → u_P L xs n d M x lc t S R Q) (kf : ¬ (a < 0) → u_P L xs n d M (pc + 3) lc t S R Q) : u_P L xs n d M pc lc (.int a :: t) S R Q := u_br (P := a < 0) hen (fun _ => rfl) kt kf
theorem u_if_ge {o : Int} (hen : M.2.2.2.2.2 pc = some ((.ifCond .ge o, len), x, y, z)) (kt : 0 ≤ a → u_P L xs n d M x lc t S R Q) (kf : ¬ (0 ≤ a) → u_P L xs n d M (pc + 3) lc t S R Q) : u_P L xs n d M pc lc (.int a :: t) S R Q := u_br (P := 0 ≤ a) hen (fun _ => rfl) kt kf
theorem u_if_gt {o : Int} (hen : M.2.2.2.2.2 pc = some ((.ifCond .gt o, len), x, y, z)) (kt : 0 < a → u_P L xs n d M x lc t S R Q) (kf : ¬ (0 < a) → u_P L xs n d M (pc + 3) lc t S R Q) : u_P L xs n d M pc lc (.int a :: t) S R Q := u_br (P := 0 < a) hen (fun _ => rfl) kt kf
theorem u_if_le {o : Int} (hen : M.2.2.2.2.2 pc = some ((.ifCond .le o, len), x, y, z)) (kt : a ≤ 0 → u_P L xs n d M x lc t S R Q) (kf : ¬ (a ≤ 0) → u_P L xs n d M (pc + 3) lc t S R Q) : u_P L xs n d M pc lc (.int a :: t) S R Q := u_br (P := a ≤ 0) hen (fun _ => rfl) kt kf
theorem u_ic_eq {o : Int} (hen : M.2.2.2.2.2 pc = some ((.if_icmp .eq o, len), x, y, z)) (kt : a = b → u_P L xs n d M x lc t S R Q) (kf : ¬ (a = b) → u_P L xs n d M (pc + 3) lc t S R Q) : u_P L xs n d M pc lc (.int b :: .int a :: t) S R Q := u_br (P := a = b) hen (fun _ => rfl) kt kf
theorem u_ic_ne {o : Int} (hen : M.2.2.2.2.2 pc = some ((.if_icmp .ne o, len), x, y, z)) (kt : ¬ a = b → u_P L xs n d M x lc t S R Q) (kf : ¬ (¬ a = b) → u_P L xs n d M (pc + 3) lc t S R Q) : u_P L xs n d M pc lc (.int b :: .int a :: t) S R Q := u_br (P := ¬ a = b) hen (fun _ => rfl) kt kf
theorem u_ic_lt {o : Int} (hen : M.2.2.2.2.2 pc = some ((.if_icmp .lt o, len), x, y, z)) (kt : a < b → u_P L xs n d M x lc t S R Q) (kf : ¬ (a < b) → u_P L xs n d M (pc + 3) lc t S R Q) : u_P L xs n d M pc lc (.int b :: .int a :: t) S R Q := u_br (P := a < b) hen (fun _ => rfl) kt kf
theorem u_ic_ge {o : Int} (hen : M.2.2.2.2.2 pc = some ((.if_icmp .ge o, len), x, y, z)) (kt : b ≤ a → u_P L xs n d M x lc t S R Q) (kf : ¬ (b ≤ a) → u_P L xs n d M (pc + 3) lc t S R Q) : u_P L xs n d M pc lc (.int b :: .int a :: t) S R Q := u_br (P := b ≤ a) hen (fun _ => rfl) kt kf
theorem u_ic_gt {o : Int} (hen : M.2.2.2.2.2 pc = some ((.if_icmp .gt o, len), x, y, z)) (kt : b < a → u_P L xs n d M x lc t S R Q) (kf : ¬ (b < a) → u_P L xs n d M (pc + 3) lc t S R Q) : u_P L xs n d M pc lc (.int b :: .int a :: t) S R Q := u_br (P := b < a) hen (fun _ => rfl) kt kf
theorem u_ic_le {o : Int} (hen : M.2.2.2.2.2 pc = some ((.if_icmp .le o, len), x, y, z)) (kt : a ≤ b → u_P L xs n d M x lc t S R Q) (kf : ¬ (a ≤ b) → u_P L xs n d M (pc + 3) lc t S R Q) : u_P L xs n d M pc lc (.int b :: .int a :: t) S R Q := u_br (P := a ≤ b) hen (fun _ => rfl) kt kf
end UB
section UE
variable {L : Nat} {xs : Nat → Int32} {n d : Nat} {M : g_M} {pc : Nat} {lc : g_Lc} {sc : List Value} {S : v_Sf} {R : v_Rf} {Q : Option Value → v_Sf → v_Rf → Prop}
theorem u_getE {i len ci y a : Nat} {z : Int} {fs : List v_Ft} {b : Int × Int} {t : List Value} {v : Int32} (hen : M.2.2.2.2.2 pc = some ((.getfield i, len), ci, y, z)) (hg : v_ty a = some (.inr (.inr (ci, fs)))) (hf : fs[y]? = some (.inl b)) (hv : S a y = v) (k : u_P L xs n d M (pc + len) lc (.int v :: t) S R Q) : u_P L xs n d M pc lc (.ref (a + 1) :: t) S R Q := by
  subst hv
  exact u_get hen hg hf k
theorem u_ialdE {len x y a m : Nat} {z : Int} {b : Int × Int} {t : List Value} {i v : Int32} (hen : M.2.2.2.2.2 pc = some ((.iaload, len), x, y, z)) (hg : v_ty a = some (.inl (0, m, b))) (hv : S a i.toInt.toNat = v) (k : 0 ≤ i.toInt → i.toInt < (m : Int) → u_P L xs n d M (pc + len) lc (.int v :: t) S R Q) : u_P L xs n d M pc lc (.int i :: .ref (a + 1) :: t) S R Q := by
  subst hv
  exact u_iald hen hg k
theorem u_baldE {len x y a m tg : Nat} {z : Int} {b : Int × Int} {t : List Value} {i v : Int32} (hen : M.2.2.2.2.2 pc = some ((.baload, len), x, y, z)) (hg : v_ty a = some (.inl (tg, m, b))) (htg : tg = 1 ∨ tg = 2) (hv : S a i.toInt.toNat = v) (k : 0 ≤ i.toInt → i.toInt < (m : Int) → u_P L xs n d M (pc + len) lc (.int v :: t) S R Q) : u_P L xs n d M pc lc (.int i :: .ref (a + 1) :: t) S R Q := by
  subst hv
  exact u_bald hen hg htg k
end UE
theorem z_sn {S : v_Sf} {a i : Nat} {v : Int32} {b j : Nat} (h : ¬ (b = a ∧ j = i)) : z_s S a i v b j = S b j := by rw [z_s_eq, if_neg h]
theorem z_ss {S : v_Sf} {a i : Nat} {v : Int32} : z_s S a i v a i = v := by rw [z_s_eq, if_pos ⟨rfl, rfl⟩]
theorem z_stl {s : Nat} (h : z_st s) : s ≤ 21 := by rcases h with rfl | rfl | rfl <;> decide
theorem z_wdl {q : Nat} (h : z_wd q) : 33 ≤ q ∧ q ≤ 43 := by
  obtain ⟨k, hk, rfl⟩ := h
  omega
theorem z_cdl {c : Nat} (h : z_cd c) : c = 52 ∨ c = 59 ∨ c = 67 := h
end PrtS42b
section PrtS42e
/-! loops by a counter -/
noncomputable def z_i (k : Nat) : Int32 := Int32.ofInt (k : Int)
theorem z_it {k : Nat} (h : k < 2000000000) : (z_i k).toInt = (k : Int) := w_nat h
theorem z_i1 (k : Nat) : z_i k + Int32.ofInt 1 = z_i (k + 1) := w_inc k
theorem z_leB {B : Int} {k : Nat} (h : Int32.ofInt B ≤ z_i k) (hB : 0 ≤ B ∧ B < 2000000000) (hk : k < 2000000000) : B ≤ (k : Int) := by
  have h2 := Int32.le_iff_toInt_le.mp h
  rw [z_it hk, show (Int32.ofInt B).toInt = B from q_ofr (by omega) (by omega)] at h2
  exact h2
theorem z_ltB {B : Int} {k : Nat} (h : ¬ Int32.ofInt B ≤ z_i k) (hB : 0 ≤ B ∧ B < 2000000000) (hk : k < 2000000000) : (k : Int) < B := by
  have h2 : ¬ (Int32.ofInt B).toInt ≤ (z_i k).toInt := fun e => h (Int32.le_iff_toInt_le.mpr e)
  rw [z_it hk, show (Int32.ofInt B).toInt = B from q_ofr (by omega) (by omega)] at h2
  omega
theorem z_ltB2 {B k : Nat} (h : ¬ Int32.ofInt (B : Int) ≤ z_i k) (hB : B < 2000000000) (hk : k < 2000000000) : k < B := by
  have := z_ltB h (by omega) hk
  omega
theorem z_leB2 {B k : Nat} (h : Int32.ofInt (B : Int) ≤ z_i k) (hB : B < 2000000000) (hk : k < 2000000000) : B ≤ k := by
  have := z_leB h (by omega) hk
  omega
theorem z_itV {k : Nat} (h : k ≤ 2147483647) : (z_i k).toInt = (k : Int) := q_ofr (by omega) (by omega)
theorem z_ltV {b : Int32} {k : Nat} (h : ¬ b ≤ z_i k) (hk : k ≤ b.toInt.toNat) : k < b.toInt.toNat := by
  have hb := b.toInt_lt
  have h2 : ¬ b.toInt ≤ (z_i k).toInt := fun e => h (Int32.le_iff_toInt_le.mpr e)
  rw [z_itV (by omega)] at h2
  omega
theorem z_leV {b : Int32} {k : Nat} (h : b ≤ z_i k) (hk : k ≤ b.toInt.toNat) : b.toInt.toNat ≤ k := by
  have hb := b.toInt_lt
  have h2 := Int32.le_iff_toInt_le.mp h
  rw [z_itV (by omega)] at h2
  omega
theorem z_ltA {B k : Nat} (h : (z_i k).toInt < (B : Int)) (hk : k < 2000000000) : k < B := by
  rw [z_it hk] at h
  omega
theorem z_rem0 {b x : Int32} (h : b ≤ x) : (b.toInt - x.toInt).toNat = 0 := by
  have := Int32.le_iff_toInt_le.mp h
  omega
theorem z_inc {b x : Int32} (h : ¬ b ≤ x) : (x + Int32.ofInt 1).toInt = x.toInt + 1 := by
  have h2 : ¬ b.toInt ≤ x.toInt := fun e => h (Int32.le_iff_toInt_le.mpr e)
  have hb := b.toInt_lt
  have hx := x.le_toInt
  have e : x + Int32.ofInt 1 = Int32.ofInt (x.toInt + 1) := by rw [Int32.ofInt_add, Int32.ofInt_toInt]
  rw [e]
  exact q_ofr (by omega) (by omega)
theorem z_rem {b x : Int32} (h : ¬ b ≤ x) : (b.toInt - x.toInt).toNat = (b.toInt - (x + Int32.ofInt 1).toInt).toNat + 1 := by
  have h2 : ¬ b.toInt ≤ x.toInt := fun e => h (Int32.le_iff_toInt_le.mpr e)
  rw [z_inc h]
  omega
/-- what is known of a run that ends holds of every run that ends -/
theorem u_of_w {L : Nat} {xs : Nat → Int32} {d0 : Nat} {M : g_M} {pc : Nat} {lc : g_Lc} {sc : List Value} {S : v_Sf} {R : v_Rf} {Q : Option Value → v_Sf → v_Rf → Prop} (h : w_T L xs d0 M pc lc sc S R Q) (n d : Nat) : u_P L xs n d M pc lc sc S R Q := by
  obtain ⟨k, r, S', R', a, q⟩ := h
  intro r2 σ h2
  have b1 := g_run_d L xs _ _ _ _ _ _ _ _ _ (Nat.le_max_left d0 d) (a n)
  have b2 := g_run_d L xs _ _ _ _ _ _ _ _ _ (Nat.le_max_right d0 d) (g_run_m L xs k h2)
  rw [Nat.add_comm n k, b1] at b2
  cases b2
  exact ⟨S', R', rfl, q⟩
noncomputable def f_X12_sizeOf (a : Int32) : Int32 := v_pop a
theorem c_X12_sizeOf (L : Nat) (xs : Nat → Int32) (n d : Nat) (a : Int32) (S : v_Sf) (R : v_Rf) : u_P L xs n d m_X12_sizeOf 0 (lv_args 0 [.int a]) [] S R (z_Q R (fun v S1 => f_X12_sizeOf a = v ∧ S = S1)) := u_of_w (d0 := 0) (h_sizeOf a ⟨_, rfl, rfl, rfl, rfl⟩) n d
theorem z_lt12 {k : Nat} (h : (Int32.ofInt 16 + z_i k).toInt < 28) (hk : k < 2000000000) : k < 12 := by
  have e : Int32.ofInt 16 + z_i k = z_i (16 + k) := by
    show Int32.ofInt ((16 : Nat) : Int) + Int32.ofInt (k : Int) = _
    rw [w_addn]
    rfl
  rw [e, z_itV (by omega)] at h
  omega
theorem z_wn1 {w : Int32} (h : w < 0) : ¬ (0 ≤ w.toInt ∧ w.toInt < ((6 : Nat) : Int)) := by
  have h2 := Int32.lt_iff_toInt_lt.mp h
  have e : (0 : Int32).toInt = 0 := rfl
  omega
theorem z_wn2 {w : Int32} (h : Int32.ofNat 6 ≤ w) : ¬ (0 ≤ w.toInt ∧ w.toInt < ((6 : Nat) : Int)) := by
  have h2 := Int32.le_iff_toInt_le.mp h
  have e : (Int32.ofNat 6).toInt = 6 := rfl
  omega
/-- a ward, or null -/
noncomputable def z_WD (R : v_Rf) (S : v_Sf) (w : Int32) (r : Option Value) (S' : v_Sf) (R' : v_Rf) : Prop := S = S' ∧ R = R' ∧ ((0 ≤ w.toInt ∧ w.toInt < ((6 : Nat) : Int)) ∧ some (.ref (33 + 2 * w.toInt.toNat + 1)) = r ∨ ¬ (0 ≤ w.toInt ∧ w.toInt < ((6 : Nat) : Int)) ∧ some .null = r)
theorem z_dn0 {x : Int32} (h : x < 0) : (x.toInt + 1).toNat = 0 := by
  have h2 := Int32.lt_iff_toInt_lt.mp h
  have e : (0 : Int32).toInt = 0 := rfl
  omega
theorem z_dn {x : Int32} (h : ¬ x < 0) : (x.toInt + 1).toNat = ((x + Int32.ofInt (-1)).toInt + 1).toNat + 1 := by
  have h2 : ¬ x.toInt < (0 : Int32).toInt := fun e => h (Int32.lt_iff_toInt_lt.mpr e)
  have e0 : (0 : Int32).toInt = 0 := rfl
  have hb := x.toInt_lt
  have e : x + Int32.ofInt (-1) = Int32.ofInt (x.toInt + (-1)) := by rw [Int32.ofInt_add, Int32.ofInt_toInt]
  rw [e, q_ofr (by omega) (by omega)]
  omega
theorem z_it3 {k : Nat} (h : k < 2147483648) : (z_i k).toInt = (k : Int) := q_ofr (by omega) (by omega)
theorem z_b31 (a : Int32) : a.toInt.toNat < 2147483648 := by
  have h := Int32.toInt_lt a
  omega
theorem z_leI {a b : Nat} (h : z_i a ≤ z_i b) (ha : a < 2147483648) (hb : b < 2147483648) : a ≤ b := by
  have h2 := Int32.le_iff_toInt_le.mp h
  rw [z_it3 ha, z_it3 hb] at h2
  omega
theorem z_ltI {a b : Nat} (h : ¬ z_i a ≤ z_i b) (ha : a < 2147483648) (hb : b < 2147483648) : b < a := by
  have h2 : ¬ (z_i a).toInt ≤ (z_i b).toInt := fun e => h (Int32.le_iff_toInt_le.mpr e)
  rw [z_it3 ha, z_it3 hb] at h2
  omega
theorem z_ltC {B k : Nat} (h : ¬ Int32.ofInt (B : Int) < z_i k) (hB : B < 2000000000) (hk : k < 2000000000) : k < B + 1 := by
  have h2 : ¬ (Int32.ofInt (B : Int)).toInt < (z_i k).toInt := fun e => h (Int32.lt_iff_toInt_lt.mpr e)
  rw [z_it hk, w_nat hB] at h2
  omega
theorem z_leC {B k : Nat} (h : Int32.ofInt (B : Int) < z_i k) (hB : B < 2000000000) (hk : k < 2000000000) : B + 1 ≤ k := by
  have h2 := Int32.lt_iff_toInt_lt.mp h
  rw [z_it hk, w_nat hB] at h2
  omega
noncomputable abbrev m_X5_readFactor : g_M := (g_cn 5, yX5_readFactor, cX5_readFactor, 4, none, g_look2 ttX5_readFactor)
/-- String.indexOf on the one String constant -/
theorem u_mac0 {L : Nat} {xs : Nat → Int32} {n d : Nat} {M : g_M} {pc : Nat} {lc : g_Lc} {sc sc' : List Value} {σ : List g_Ce} (hen : M.2.2.2.2.2 pc = none) (hm : g_mac d M pc lc sc = some sc') : g_run g_mt L xs (n + 1) d M pc lc sc σ = g_run g_mt L xs n d M 20 lc sc' σ := by
  rw [g_run]
  simp only [hen, hm]
theorem u_mac1 {L : Nat} {xs : Nat → Int32} {n d : Nat} {M : g_M} {pc : Nat} {lc : g_Lc} {sc : List Value} {σ : List g_Ce} (hen : M.2.2.2.2.2 pc = none) (hm : g_mac d M pc lc sc = none) : g_run g_mt L xs (n + 1) d M pc lc sc σ = none := by
  rw [g_run]
  simp only [hen, hm]
theorem u_mac {L : Nat} {xs : Nat → Int32} {n d : Nat} {lc : g_Lc} {S : v_Sf} {R : v_Rf} {Q : Option Value → v_Sf → v_Rf → Prop} {v : Int32} (hl : g_get lc 2 = some (.int v)) (k : u_P L xs n d m_X5_readFactor 20 lc [.int (g_ixo v)] S R Q) : u_P L xs n d m_X5_readFactor 13 lc [] S R Q := by
  intro r σ h
  cases n with
  | zero => exact u_zero (Q := Q) r σ h
  | succ n =>
    have hen : m_X5_readFactor.2.2.2.2.2 13 = none := rfl
    by_cases hd : 8 ≤ d
    · have hm : g_mac d m_X5_readFactor 13 lc [] = some [.int (g_ixo v)] := by
        unfold g_mac
        rw [if_pos ⟨rfl, rfl, rfl, rfl, rfl, hd⟩, hl]
      have e : g_run g_mt L xs (n + 1) d m_X5_readFactor 13 lc [] (v_mk v_ty S R) = g_run g_mt L xs n d m_X5_readFactor 20 lc [.int (g_ixo v)] (v_mk v_ty S R) := u_mac0 hen hm
      rw [e] at h
      exact k r σ (g_run_n L xs _ _ _ _ _ _ _ _ h)
    · exfalso
      have hm : g_mac d m_X5_readFactor 13 lc [] = none := by
        unfold g_mac
        rw [if_neg (fun q => hd q.2.2.2.2.2)]
      have e : g_run g_mt L xs (n + 1) d m_X5_readFactor 13 lc [] (v_mk v_ty S R) = none := u_mac1 hen hm
      rw [e] at h
      cases h
/-! loops without a counter -/
noncomputable def z_itr {α β : Type} (s : α → α ⊕ β) : Nat → α → Option β
  | 0, _ => none
  | n + 1, a => match s a with
    | .inl a' => z_itr s n a'
    | .inr b => some b
theorem z_itr_l {α β : Type} {s : α → α ⊕ β} {n : Nat} {a a' : α} (h : s a = .inl a') : z_itr s (n + 1) a = z_itr s n a' := by rw [z_itr, h]
theorem z_itr_r {α β : Type} {s : α → α ⊕ β} {n : Nat} {a : α} {b : β} (h : s a = .inr b) : z_itr s (n + 1) a = some b := by rw [z_itr, h]
theorem z_itr_m {α β : Type} (s : α → α ⊕ β) : ∀ (n : Nat) (a : α) (b : β), z_itr s n a = some b → z_itr s (n + 1) a = some b := by
  intro n
  induction n with
  | zero => intro a b h; cases h
  | succ n ih =>
    intro a b h
    cases hs : s a with
    | inl a' => rw [z_itr_l hs] at h ⊢; exact ih _ _ h
    | inr c => rw [z_itr_r hs] at h ⊢; exact h
theorem z_itr_k {α β : Type} (s : α → α ⊕ β) (n : Nat) (a : α) (b : β) (h : z_itr s n a = some b) : ∀ k, z_itr s (n + k) a = some b := by
  intro k
  induction k with
  | zero => exact h
  | succ k ih => exact z_itr_m s _ _ _ ih
theorem z_itr_u {α β : Type} {s : α → α ⊕ β} {n m : Nat} {a : α} {b c : β} (h1 : z_itr s n a = some b) (h2 : z_itr s m a = some c) : b = c := by
  have e1 := z_itr_k s n a b h1 m
  have e2 := z_itr_k s m a c h2 n
  rw [Nat.add_comm m n, e1] at e2
  exact Option.some.inj e2
noncomputable def z_lim {α β : Type} (s : α → α ⊕ β) (b0 : β) (a : α) : β := @dite β (∃ b, ∃ n, z_itr s n a = some b) (Classical.propDecidable _) (fun h => h.choose) (fun _ => b0)
theorem z_lim_eq {α β : Type} {s : α → α ⊕ β} {b0 : β} {n : Nat} {a : α} {b : β} (h : z_itr s n a = some b) : z_lim s b0 a = b := by
  have hx : ∃ b, ∃ n, z_itr s n a = some b := ⟨b, n, h⟩
  unfold z_lim
  rw [dif_pos hx]
  obtain ⟨m, hm⟩ := hx.choose_spec
  exact z_itr_u hm h
end PrtS42e
section PrtS42c
/-! the class: methods without loops (by gen42.py) -/
noncomputable def f_X11_within (a : Int32) (b : Int32) : Int32 := (if a < 0 then Int32.ofInt 0 else (if b < a then Int32.ofInt 0 else Int32.ofInt 1))
set_option maxRecDepth 4000 in
theorem c_X11_within (L : Nat) (xs : Nat → Int32) (n d : Nat) (a : Int32) (b : Int32) (S : v_Sf) (R : v_Rf) : u_P L xs n d m_X11_within 0 (lv_args 0 [.int a, .int b]) [] S R (z_Q R (fun v S1 => f_X11_within a b = v ∧ S = S1)) := by
  show u_P L xs n d m_X11_within 0 [(0, .int a), (1, .int b)] [] S R _
  refine u_st rfl (fun _ => rfl) ?_
  show u_P L xs n d m_X11_within 1 [(0, .int a), (1, .int b)] [.int a] S R _
  refine u_if_lt rfl (fun h1 => ?_) (fun h1 => ?_)
  · show u_P L xs n d m_X11_within 13 [(0, .int a), (1, .int b)] [] S R _
    refine u_st rfl (fun _ => rfl) ?_
    show u_P L xs n d m_X11_within 14 [(0, .int a), (1, .int b)] [.int (Int32.ofInt 0)] S R _
    exact u_retb rfl rfl ⟨_, rfl, rfl, by rw [f_X11_within, if_pos h1], rfl⟩
  · show u_P L xs n d m_X11_within 4 [(0, .int a), (1, .int b)] [] S R _
    refine u_st rfl (fun _ => rfl) ?_
    refine u_st rfl (fun _ => rfl) ?_
    show u_P L xs n d m_X11_within 6 [(0, .int a), (1, .int b)] [.int b, .int a] S R _
    refine u_ic_gt rfl (fun h2 => ?_) (fun h2 => ?_)
    · show u_P L xs n d m_X11_within 13 [(0, .int a), (1, .int b)] [] S R _
      refine u_st rfl (fun _ => rfl) ?_
      show u_P L xs n d m_X11_within 14 [(0, .int a), (1, .int b)] [.int (Int32.ofInt 0)] S R _
      exact u_retb rfl rfl ⟨_, rfl, rfl, by rw [f_X11_within, if_neg h1, if_pos h2], rfl⟩
    · show u_P L xs n d m_X11_within 9 [(0, .int a), (1, .int b)] [] S R _
      refine u_st rfl (fun _ => rfl) ?_
      refine u_st rfl (fun _ => rfl) ?_
      show u_P L xs n d m_X11_within 14 [(0, .int a), (1, .int b)] [.int (Int32.ofInt 1)] S R _
      exact u_retb rfl rfl ⟨_, rfl, rfl, by rw [f_X11_within, if_neg h1, if_neg h2], rfl⟩
noncomputable abbrev m_X11_isIn : g_M := (g_cn 11, yX11_isIn, cX11_isIn, 2, (some .boolean), g_look2 ttX11_isIn)
set_option maxRecDepth 20000 in
theorem mt_X11_isIn : g_mt 148 = some m_X11_isIn := rfl
noncomputable def f_X11_isIn (a : Int32) (b : Int32) : Int32 := (if b < 0 then Int32.ofInt 0 else (if (Int32.ofInt 31) ≤ b then Int32.ofInt 0 else (if ((a >>> (b &&& 31)) &&& (Int32.ofInt 1)) = 0 then Int32.ofInt 0 else Int32.ofInt 1)))
set_option maxRecDepth 4000 in
theorem c_X11_isIn (L : Nat) (xs : Nat → Int32) (n d : Nat) (a : Int32) (b : Int32) (S : v_Sf) (R : v_Rf) : u_P L xs n d m_X11_isIn 0 (lv_args 0 [.int a, .int b]) [] S R (z_Q R (fun v S1 => f_X11_isIn a b = v ∧ S = S1)) := by
  show u_P L xs n d m_X11_isIn 0 [(0, .int a), (1, .int b)] [] S R _
  refine u_st rfl (fun _ => rfl) ?_
  show u_P L xs n d m_X11_isIn 1 [(0, .int a), (1, .int b)] [.int b] S R _
  refine u_if_lt rfl (fun h1 => ?_) (fun h1 => ?_)
  · show u_P L xs n d m_X11_isIn 22 [(0, .int a), (1, .int b)] [] S R _
    refine u_st rfl (fun _ => rfl) ?_
    show u_P L xs n d m_X11_isIn 23 [(0, .int a), (1, .int b)] [.int (Int32.ofInt 0)] S R _
    exact u_retb rfl rfl ⟨_, rfl, rfl, by rw [f_X11_isIn, if_pos h1], rfl⟩
  · show u_P L xs n d m_X11_isIn 4 [(0, .int a), (1, .int b)] [] S R _
    refine u_st rfl (fun _ => rfl) ?_
    refine u_st rfl (fun _ => rfl) ?_
    show u_P L xs n d m_X11_isIn 7 [(0, .int a), (1, .int b)] [.int (Int32.ofInt 31), .int b] S R _
    refine u_ic_ge rfl (fun h2 => ?_) (fun h2 => ?_)
    · show u_P L xs n d m_X11_isIn 22 [(0, .int a), (1, .int b)] [] S R _
      refine u_st rfl (fun _ => rfl) ?_
      show u_P L xs n d m_X11_isIn 23 [(0, .int a), (1, .int b)] [.int (Int32.ofInt 0)] S R _
      exact u_retb rfl rfl ⟨_, rfl, rfl, by rw [f_X11_isIn, if_neg h1, if_pos h2], rfl⟩
    · show u_P L xs n d m_X11_isIn 10 [(0, .int a), (1, .int b)] [] S R _
      refine u_st rfl (fun _ => rfl) ?_
      refine u_st rfl (fun _ => rfl) ?_
      refine u_st rfl (fun _ => rfl) ?_
      refine u_st rfl (fun _ => rfl) ?_
      refine u_st rfl (fun _ => rfl) ?_
      show u_P L xs n d m_X11_isIn 15 [(0, .int a), (1, .int b)] [.int ((a >>> (b &&& 31)) &&& (Int32.ofInt 1))] S R _
      refine u_if_eq rfl (fun h3 => ?_) (fun h3 => ?_)
      · show u_P L xs n d m_X11_isIn 22 [(0, .int a), (1, .int b)] [] S R _
        refine u_st rfl (fun _ => rfl) ?_
        show u_P L xs n d m_X11_isIn 23 [(0, .int a), (1, .int b)] [.int (Int32.ofInt 0)] S R _
        exact u_retb rfl rfl ⟨_, rfl, rfl, by rw [f_X11_isIn, if_neg h1, if_neg h2, if_pos h3], rfl⟩
      · show u_P L xs n d m_X11_isIn 18 [(0, .int a), (1, .int b)] [] S R _
        refine u_st rfl (fun _ => rfl) ?_
        refine u_st rfl (fun _ => rfl) ?_
        show u_P L xs n d m_X11_isIn 23 [(0, .int a), (1, .int b)] [.int (Int32.ofInt 1)] S R _
        exact u_retb rfl rfl ⟨_, rfl, rfl, by rw [f_X11_isIn, if_neg h1, if_neg h2, if_neg h3], rfl⟩
noncomputable abbrev m_X7_hasGust : g_M := (g_cn 7, yX7_hasGust, cX7_hasGust, 2, (some .boolean), g_look2 ttX7_hasGust)
set_option maxRecDepth 20000 in
theorem mt_X7_hasGust : g_mt 88 = some m_X7_hasGust := rfl
noncomputable def f_X7_hasGust (s : Nat) (g : Int32) (S : v_Sf) : Int32 := (if g < 0 then Int32.ofInt 0 else (if (Int32.ofInt 12) ≤ g then Int32.ofInt 0 else (if (((S s 0) >>> (g &&& 31)) &&& (Int32.ofInt 1)) = 0 then Int32.ofInt 0 else Int32.ofInt 1)))
set_option maxRecDepth 4000 in
theorem c_X7_hasGust (L : Nat) (xs : Nat → Int32) (n d : Nat) (s : Nat) (hs : z_st s) (g : Int32) (S : v_Sf) (R : v_Rf) : u_P L xs n d m_X7_hasGust 0 (lv_args 0 [.ref (s + 1), .int g]) [] S R (z_Q R (fun v S1 => f_X7_hasGust s g S = v ∧ S = S1)) := by
  show u_P L xs n d m_X7_hasGust 0 [(0, .ref (s + 1)), (1, .int g)] [] S R _
  refine u_st rfl (fun _ => rfl) ?_
  show u_P L xs n d m_X7_hasGust 1 [(0, .ref (s + 1)), (1, .int g)] [.int g] S R _
  refine u_if_lt rfl (fun h1 => ?_) (fun h1 => ?_)
  · show u_P L xs n d m_X7_hasGust 25 [(0, .ref (s + 1)), (1, .int g)] [] S R _
    refine u_st rfl (fun _ => rfl) ?_
    show u_P L xs n d m_X7_hasGust 26 [(0, .ref (s + 1)), (1, .int g)] [.int (Int32.ofInt 0)] S R _
    exact u_retb rfl rfl ⟨_, rfl, rfl, by rw [f_X7_hasGust, if_pos h1], rfl⟩
  · show u_P L xs n d m_X7_hasGust 4 [(0, .ref (s + 1)), (1, .int g)] [] S R _
    refine u_st rfl (fun _ => rfl) ?_
    refine u_st rfl (fun _ => rfl) ?_
    show u_P L xs n d m_X7_hasGust 7 [(0, .ref (s + 1)), (1, .int g)] [.int (Int32.ofInt 12), .int g] S R _
    refine u_ic_ge rfl (fun h2 => ?_) (fun h2 => ?_)
    · show u_P L xs n d m_X7_hasGust 25 [(0, .ref (s + 1)), (1, .int g)] [] S R _
      refine u_st rfl (fun _ => rfl) ?_
      show u_P L xs n d m_X7_hasGust 26 [(0, .ref (s + 1)), (1, .int g)] [.int (Int32.ofInt 0)] S R _
      exact u_retb rfl rfl ⟨_, rfl, rfl, by rw [f_X7_hasGust, if_neg h1, if_pos h2], rfl⟩
    · show u_P L xs n d m_X7_hasGust 10 [(0, .ref (s + 1)), (1, .int g)] [] S R _
      refine u_st rfl (fun _ => rfl) ?_
      show u_P L xs n d m_X7_hasGust 11 [(0, .ref (s + 1)), (1, .int g)] [.ref (s + 1)] S R _
      refine u_getE (v := S s 0) rfl (z_st0 hs) rfl rfl ?_
      refine u_st rfl (fun _ => rfl) ?_
      refine u_st rfl (fun _ => rfl) ?_
      refine u_st rfl (fun _ => rfl) ?_
      refine u_st rfl (fun _ => rfl) ?_
      show u_P L xs n d m_X7_hasGust 18 [(0, .ref (s + 1)), (1, .int g)] [.int (((S s 0) >>> (g &&& 31)) &&& (Int32.ofInt 1))] S R _
      refine u_if_eq rfl (fun h3 => ?_) (fun h3 => ?_)
      · show u_P L xs n d m_X7_hasGust 25 [(0, .ref (s + 1)), (1, .int g)] [] S R _
        refine u_st rfl (fun _ => rfl) ?_
        show u_P L xs n d m_X7_hasGust 26 [(0, .ref (s + 1)), (1, .int g)] [.int (Int32.ofInt 0)] S R _
        exact u_retb rfl rfl ⟨_, rfl, rfl, by rw [f_X7_hasGust, if_neg h1, if_neg h2, if_pos h3], rfl⟩
      · show u_P L xs n d m_X7_hasGust 21 [(0, .ref (s + 1)), (1, .int g)] [] S R _
        refine u_st rfl (fun _ => rfl) ?_
        refine u_st rfl (fun _ => rfl) ?_
        show u_P L xs n d m_X7_hasGust 26 [(0, .ref (s + 1)), (1, .int g)] [.int (Int32.ofInt 1)] S R _
        exact u_retb rfl rfl ⟨_, rfl, rfl, by rw [f_X7_hasGust, if_neg h1, if_neg h2, if_neg h3], rfl⟩
noncomputable abbrev m_X7_hasNurse : g_M := (g_cn 7, yX7_hasNurse, cX7_hasNurse, 2, (some .boolean), g_look2 ttX7_hasNurse)
set_option maxRecDepth 20000 in
theorem mt_X7_hasNurse : g_mt 89 = some m_X7_hasNurse := rfl
noncomputable def f_X7_hasNurse (s : Nat) (k : Int32) (S : v_Sf) : Int32 := (if k < 0 then Int32.ofInt 0 else (if (Int32.ofInt 5) ≤ k then Int32.ofInt 0 else (if (((S s 7) >>> (k &&& 31)) &&& (Int32.ofInt 1)) = 0 then Int32.ofInt 0 else Int32.ofInt 1)))
set_option maxRecDepth 4000 in
theorem c_X7_hasNurse (L : Nat) (xs : Nat → Int32) (n d : Nat) (s : Nat) (hs : z_st s) (k : Int32) (S : v_Sf) (R : v_Rf) : u_P L xs n d m_X7_hasNurse 0 (lv_args 0 [.ref (s + 1), .int k]) [] S R (z_Q R (fun v S1 => f_X7_hasNurse s k S = v ∧ S = S1)) := by
  show u_P L xs n d m_X7_hasNurse 0 [(0, .ref (s + 1)), (1, .int k)] [] S R _
  refine u_st rfl (fun _ => rfl) ?_
  show u_P L xs n d m_X7_hasNurse 1 [(0, .ref (s + 1)), (1, .int k)] [.int k] S R _
  refine u_if_lt rfl (fun h1 => ?_) (fun h1 => ?_)
  · show u_P L xs n d m_X7_hasNurse 24 [(0, .ref (s + 1)), (1, .int k)] [] S R _
    refine u_st rfl (fun _ => rfl) ?_
    show u_P L xs n d m_X7_hasNurse 25 [(0, .ref (s + 1)), (1, .int k)] [.int (Int32.ofInt 0)] S R _
    exact u_retb rfl rfl ⟨_, rfl, rfl, by rw [f_X7_hasNurse, if_pos h1], rfl⟩
  · show u_P L xs n d m_X7_hasNurse 4 [(0, .ref (s + 1)), (1, .int k)] [] S R _
    refine u_st rfl (fun _ => rfl) ?_
    refine u_st rfl (fun _ => rfl) ?_
    show u_P L xs n d m_X7_hasNurse 6 [(0, .ref (s + 1)), (1, .int k)] [.int (Int32.ofInt 5), .int k] S R _
    refine u_ic_ge rfl (fun h2 => ?_) (fun h2 => ?_)
    · show u_P L xs n d m_X7_hasNurse 24 [(0, .ref (s + 1)), (1, .int k)] [] S R _
      refine u_st rfl (fun _ => rfl) ?_
      show u_P L xs n d m_X7_hasNurse 25 [(0, .ref (s + 1)), (1, .int k)] [.int (Int32.ofInt 0)] S R _
      exact u_retb rfl rfl ⟨_, rfl, rfl, by rw [f_X7_hasNurse, if_neg h1, if_pos h2], rfl⟩
    · show u_P L xs n d m_X7_hasNurse 9 [(0, .ref (s + 1)), (1, .int k)] [] S R _
      refine u_st rfl (fun _ => rfl) ?_
      show u_P L xs n d m_X7_hasNurse 10 [(0, .ref (s + 1)), (1, .int k)] [.ref (s + 1)] S R _
      refine u_getE (v := S s 7) rfl (z_st0 hs) rfl rfl ?_
      refine u_st rfl (fun _ => rfl) ?_
      refine u_st rfl (fun _ => rfl) ?_
      refine u_st rfl (fun _ => rfl) ?_
      refine u_st rfl (fun _ => rfl) ?_
      show u_P L xs n d m_X7_hasNurse 17 [(0, .ref (s + 1)), (1, .int k)] [.int (((S s 7) >>> (k &&& 31)) &&& (Int32.ofInt 1))] S R _
      refine u_if_eq rfl (fun h3 => ?_) (fun h3 => ?_)
      · show u_P L xs n d m_X7_hasNurse 24 [(0, .ref (s + 1)), (1, .int k)] [] S R _
        refine u_st rfl (fun _ => rfl) ?_
        show u_P L xs n d m_X7_hasNurse 25 [(0, .ref (s + 1)), (1, .int k)] [.int (Int32.ofInt 0)] S R _
        exact u_retb rfl rfl ⟨_, rfl, rfl, by rw [f_X7_hasNurse, if_neg h1, if_neg h2, if_pos h3], rfl⟩
      · show u_P L xs n d m_X7_hasNurse 20 [(0, .ref (s + 1)), (1, .int k)] [] S R _
        refine u_st rfl (fun _ => rfl) ?_
        refine u_st rfl (fun _ => rfl) ?_
        show u_P L xs n d m_X7_hasNurse 25 [(0, .ref (s + 1)), (1, .int k)] [.int (Int32.ofInt 1)] S R _
        exact u_retb rfl rfl ⟨_, rfl, rfl, by rw [f_X7_hasNurse, if_neg h1, if_neg h2, if_neg h3], rfl⟩
noncomputable abbrev m_X7_works : g_M := (g_cn 7, yX7_works, cX7_works, 2, (some .boolean), g_look2 ttX7_works)
set_option maxRecDepth 20000 in
theorem mt_X7_works : g_mt 90 = some m_X7_works := rfl
noncomputable def f_X7_works (s : Nat) (k : Int32) (S : v_Sf) : Int32 := (if (f_X7_hasNurse s k S) = 0 then Int32.ofInt 0 else (if ¬ (S (s + 8) k.toInt.toNat) = 0 then Int32.ofInt 0 else Int32.ofInt 1))
set_option maxRecDepth 4000 in
theorem c_X7_works (L : Nat) (xs : Nat → Int32) (n d : Nat) (s : Nat) (hs : z_st s) (k : Int32) (S : v_Sf) (R : v_Rf) : u_P L xs n d m_X7_works 0 (lv_args 0 [.ref (s + 1), .int k]) [] S R (z_Q R (fun v S1 => f_X7_works s k S = v ∧ S = S1)) := by
  show u_P L xs n d m_X7_works 0 [(0, .ref (s + 1)), (1, .int k)] [] S R _
  refine u_st rfl (fun _ => rfl) ?_
  refine u_st rfl (fun _ => rfl) ?_
  show u_P L xs n d m_X7_works 2 [(0, .ref (s + 1)), (1, .int k)] [.int k, .ref (s + 1)] S R _
  refine u_cv (rest := []) rfl (by decide) mt_X7_hasNurse (z_st0 hs) rfl rfl rfl (Nat.le_of_ble_eq_true rfl) (Nat.le_of_ble_eq_true rfl) (Nat.le_of_ble_eq_true rfl) (fun d' => c_X7_hasNurse L xs n d' s hs k S R) ?_
  rintro _ _ _ ⟨_, rfl, rfl, rfl, rfl⟩
  show u_P L xs n d m_X7_works 5 [(0, .ref (s + 1)), (1, .int k)] [.int (f_X7_hasNurse s k S)] S R _
  refine u_if_eq rfl (fun h1 => ?_) (fun h1 => ?_)
  · show u_P L xs n d m_X7_works 21 [(0, .ref (s + 1)), (1, .int k)] [] S R _
    refine u_st rfl (fun _ => rfl) ?_
    show u_P L xs n d m_X7_works 22 [(0, .ref (s + 1)), (1, .int k)] [.int (Int32.ofInt 0)] S R _
    exact u_retb rfl rfl ⟨_, rfl, rfl, by rw [f_X7_works, if_pos h1], rfl⟩
  · show u_P L xs n d m_X7_works 8 [(0, .ref (s + 1)), (1, .int k)] [] S R _
    refine u_st rfl (fun _ => rfl) ?_
    show u_P L xs n d m_X7_works 9 [(0, .ref (s + 1)), (1, .int k)] [.ref (s + 1)] S R _
    refine u_getr rfl (z_st0 hs) rfl ?_
    refine u_st rfl (fun _ => rfl) ?_
    show u_P L xs n d m_X7_works 13 [(0, .ref (s + 1)), (1, .int k)] [.int k, .ref (s + 9)] S R _
    refine u_ialdE (v := S (s + 8) k.toInt.toNat) rfl (z_st8 hs) rfl (fun b21 b22 => ?_)
    show u_P L xs n d m_X7_works 14 [(0, .ref (s + 1)), (1, .int k)] [.int (S (s + 8) k.toInt.toNat)] S R _
    refine u_if_ne rfl (fun h3 => ?_) (fun h3 => ?_)
    · show u_P L xs n d m_X7_works 21 [(0, .ref (s + 1)), (1, .int k)] [] S R _
      refine u_st rfl (fun _ => rfl) ?_
      show u_P L xs n d m_X7_works 22 [(0, .ref (s + 1)), (1, .int k)] [.int (Int32.ofInt 0)] S R _
      exact u_retb rfl rfl ⟨_, rfl, rfl, by rw [f_X7_works, if_neg h1, if_pos h3], rfl⟩
    · show u_P L xs n d m_X7_works 17 [(0, .ref (s + 1)), (1, .int k)] [] S R _
      refine u_st rfl (fun _ => rfl) ?_
      refine u_st rfl (fun _ => rfl) ?_
      show u_P L xs n d m_X7_works 22 [(0, .ref (s + 1)), (1, .int k)] [.int (Int32.ofInt 1)] S R _
      exact u_retb rfl rfl ⟨_, rfl, rfl, by rw [f_X7_works, if_neg h1, if_neg h3], rfl⟩
noncomputable abbrev m_X7_draw : g_M := (g_cn 7, yX7_draw, cX7_draw, 1, (some .int), g_look2 ttX7_draw)
set_option maxRecDepth 20000 in
theorem mt_X7_draw : g_mt 92 = some m_X7_draw := rfl
noncomputable def f_X7_draw (s : Nat) (S : v_Sf) : Int32 := ((((Int32.ofInt 25173) * (S s 14)) + (Int32.ofInt 13849)) &&& (Int32.ofInt 65535)) - ((((Int32.ofInt 25173) * (S s 14)) + (Int32.ofInt 13849)) &&& (Int32.ofInt 65535)) / (Int32.ofInt 10) * (Int32.ofInt 10)
noncomputable def g_X7_draw (s : Nat) (S : v_Sf) : v_Sf := z_s S s 14 ((((Int32.ofInt 25173) * (S s 14)) + (Int32.ofInt 13849)) &&& (Int32.ofInt 65535))
set_option maxRecDepth 4000 in
theorem c_X7_draw (L : Nat) (xs : Nat → Int32) (n d : Nat) (s : Nat) (hs : z_st s) (S : v_Sf) (R : v_Rf) : u_P L xs n d m_X7_draw 0 (lv_args 0 [.ref (s + 1)]) [] S R (z_Q R (fun v S1 => f_X7_draw s S = v ∧ g_X7_draw s S = S1)) := by
  show u_P L xs n d m_X7_draw 0 [(0, .ref (s + 1))] [] S R _
  refine u_st rfl (fun _ => rfl) ?_
  refine u_st rfl (fun _ => rfl) ?_
  refine u_st rfl (fun _ => rfl) ?_
  show u_P L xs n d m_X7_draw 5 [(0, .ref (s + 1))] [.ref (s + 1), .int (Int32.ofInt 25173), .ref (s + 1)] S R _
  refine u_getE (v := S s 14) rfl (z_st0 hs) rfl rfl ?_
  refine u_st rfl (fun _ => rfl) ?_
  refine u_st rfl (fun _ => rfl) ?_
  refine u_st rfl (fun _ => rfl) ?_
  refine u_st rfl (fun _ => rfl) ?_
  refine u_st rfl (fun _ => rfl) ?_
  show u_P L xs n d m_X7_draw 16 [(0, .ref (s + 1))] [.int ((((Int32.ofInt 25173) * (S s 14)) + (Int32.ofInt 13849)) &&& (Int32.ofInt 65535)), .ref (s + 1)] S R _
  refine u_put rfl (z_st0 hs) rfl ?_
  refine u_st rfl (fun _ => rfl) ?_
  show u_P L xs n d m_X7_draw 20 [(0, .ref (s + 1))] [.ref (s + 1)] (z_s S s 14 ((((Int32.ofInt 25173) * (S s 14)) + (Int32.ofInt 13849)) &&& (Int32.ofInt 65535))) R _
  refine u_getE (v := (((Int32.ofInt 25173) * (S s 14)) + (Int32.ofInt 13849)) &&& (Int32.ofInt 65535)) rfl (z_st0 hs) rfl z_ss ?_
  refine u_st rfl (fun _ => rfl) ?_
  show u_P L xs n d m_X7_draw 25 [(0, .ref (s + 1))] [.int (Int32.ofInt 10), .int ((((Int32.ofInt 25173) * (S s 14)) + (Int32.ofInt 13849)) &&& (Int32.ofInt 65535))] (z_s S s 14 ((((Int32.ofInt 25173) * (S s 14)) + (Int32.ofInt 13849)) &&& (Int32.ofInt 65535))) R _
  refine u_irem rfl (fun b1 => ?_)
  show u_P L xs n d m_X7_draw 26 [(0, .ref (s + 1))] [.int (((((Int32.ofInt 25173) * (S s 14)) + (Int32.ofInt 13849)) &&& (Int32.ofInt 65535)) - ((((Int32.ofInt 25173) * (S s 14)) + (Int32.ofInt 13849)) &&& (Int32.ofInt 65535)) / (Int32.ofInt 10) * (Int32.ofInt 10))] (z_s S s 14 ((((Int32.ofInt 25173) * (S s 14)) + (Int32.ofInt 13849)) &&& (Int32.ofInt 65535))) R _
  exact u_ret rfl rfl ⟨_, rfl, rfl, rfl, rfl⟩
noncomputable abbrev m_X9_lessonAt : g_M := (g_cn 9, yX9_lessonAt, cX9_lessonAt, 2, (some .int), g_look2 ttX9_lessonAt)
set_option maxRecDepth 20000 in
theorem mt_X9_lessonAt : g_mt 101 = some m_X9_lessonAt := rfl
noncomputable def f_X9_lessonAt (q : Nat) (p : Int32) (S : v_Sf) : Int32 := (if p < 0 then Int32.ofInt (-2) else (if (S q 1) ≤ p then Int32.ofInt (-2) else S (q + 1) p.toInt.toNat))
set_option maxRecDepth 4000 in
theorem c_X9_lessonAt (L : Nat) (xs : Nat → Int32) (n d : Nat) (q : Nat) (hq : z_wd q) (p : Int32) (S : v_Sf) (R : v_Rf) : u_P L xs n d m_X9_lessonAt 0 (lv_args 0 [.ref (q + 1), .int p]) [] S R (z_Q R (fun v S1 => f_X9_lessonAt q p S = v ∧ S = S1)) := by
  show u_P L xs n d m_X9_lessonAt 0 [(0, .ref (q + 1)), (1, .int p)] [] S R _
  refine u_st rfl (fun _ => rfl) ?_
  show u_P L xs n d m_X9_lessonAt 1 [(0, .ref (q + 1)), (1, .int p)] [.int p] S R _
  refine u_if_lt rfl (fun h1 => ?_) (fun h1 => ?_)
  · show u_P L xs n d m_X9_lessonAt 21 [(0, .ref (q + 1)), (1, .int p)] [] S R _
    refine u_st rfl (fun _ => rfl) ?_
    show u_P L xs n d m_X9_lessonAt 23 [(0, .ref (q + 1)), (1, .int p)] [.int (Int32.ofInt (-2))] S R _
    exact u_ret rfl rfl ⟨_, rfl, rfl, by rw [f_X9_lessonAt, if_pos h1], rfl⟩
  · show u_P L xs n d m_X9_lessonAt 4 [(0, .ref (q + 1)), (1, .int p)] [] S R _
    refine u_st rfl (fun _ => rfl) ?_
    refine u_st rfl (fun _ => rfl) ?_
    show u_P L xs n d m_X9_lessonAt 6 [(0, .ref (q + 1)), (1, .int p)] [.ref (q + 1), .int p] S R _
    refine u_getE (v := S q 1) rfl (z_wd0 hq) rfl rfl ?_
    show u_P L xs n d m_X9_lessonAt 9 [(0, .ref (q + 1)), (1, .int p)] [.int (S q 1), .int p] S R _
    refine u_ic_ge rfl (fun h2 => ?_) (fun h2 => ?_)
    · show u_P L xs n d m_X9_lessonAt 21 [(0, .ref (q + 1)), (1, .int p)] [] S R _
      refine u_st rfl (fun _ => rfl) ?_
      show u_P L xs n d m_X9_lessonAt 23 [(0, .ref (q + 1)), (1, .int p)] [.int (Int32.ofInt (-2))] S R _
      exact u_ret rfl rfl ⟨_, rfl, rfl, by rw [f_X9_lessonAt, if_neg h1, if_pos h2], rfl⟩
    · show u_P L xs n d m_X9_lessonAt 12 [(0, .ref (q + 1)), (1, .int p)] [] S R _
      refine u_st rfl (fun _ => rfl) ?_
      show u_P L xs n d m_X9_lessonAt 13 [(0, .ref (q + 1)), (1, .int p)] [.ref (q + 1)] S R _
      refine u_getr rfl (z_wd0 hq) rfl ?_
      refine u_st rfl (fun _ => rfl) ?_
      show u_P L xs n d m_X9_lessonAt 17 [(0, .ref (q + 1)), (1, .int p)] [.int p, .ref (q + 2)] S R _
      refine u_ialdE (v := S (q + 1) p.toInt.toNat) rfl (z_wd1 hq) rfl (fun b31 b32 => ?_)
      refine u_st rfl (fun _ => rfl) ?_
      show u_P L xs n d m_X9_lessonAt 23 [(0, .ref (q + 1)), (1, .int p)] [.int (S (q + 1) p.toInt.toNat)] S R _
      exact u_ret rfl rfl ⟨_, rfl, rfl, by rw [f_X9_lessonAt, if_neg h1, if_neg h2], rfl⟩
noncomputable abbrev m_X9_placeAfter : g_M := (g_cn 9, yX9_placeAfter, cX9_placeAfter, 2, (some .int), g_look2 ttX9_placeAfter)
set_option maxRecDepth 20000 in
theorem mt_X9_placeAfter : g_mt 102 = some m_X9_placeAfter := rfl
noncomputable def f_X9_placeAfter (q : Nat) (p : Int32) (S : v_Sf) : Int32 := (if (S q 1) ≤ (p + (Int32.ofInt 1)) then Int32.ofInt 0 else p + (Int32.ofInt 1))
set_option maxRecDepth 4000 in
theorem c_X9_placeAfter (L : Nat) (xs : Nat → Int32) (n d : Nat) (q : Nat) (hq : z_wd q) (p : Int32) (S : v_Sf) (R : v_Rf) : u_P L xs n d m_X9_placeAfter 0 (lv_args 0 [.ref (q + 1), .int p]) [] S R (z_Q R (fun v S1 => f_X9_placeAfter q p S = v ∧ S = S1)) := by
  show u_P L xs n d m_X9_placeAfter 0 [(0, .ref (q + 1)), (1, .int p)] [] S R _
  refine u_st rfl (fun _ => rfl) ?_
  refine u_st rfl (fun _ => rfl) ?_
  refine u_st rfl (fun _ => rfl) ?_
  refine u_st rfl (fun _ => rfl) ?_
  show u_P L xs n d m_X9_placeAfter 4 [(0, .ref (q + 1)), (1, .int p)] [.ref (q + 1), .int (p + (Int32.ofInt 1))] S R _
  refine u_getE (v := S q 1) rfl (z_wd0 hq) rfl rfl ?_
  show u_P L xs n d m_X9_placeAfter 7 [(0, .ref (q + 1)), (1, .int p)] [.int (S q 1), .int (p + (Int32.ofInt 1))] S R _
  refine u_ic_ge rfl (fun h1 => ?_) (fun h1 => ?_)
  · show u_P L xs n d m_X9_placeAfter 16 [(0, .ref (q + 1)), (1, .int p)] [] S R _
    refine u_st rfl (fun _ => rfl) ?_
    show u_P L xs n d m_X9_placeAfter 17 [(0, .ref (q + 1)), (1, .int p)] [.int (Int32.ofInt 0)] S R _
    exact u_ret rfl rfl ⟨_, rfl, rfl, by rw [f_X9_placeAfter, if_pos h1], rfl⟩
  · show u_P L xs n d m_X9_placeAfter 10 [(0, .ref (q + 1)), (1, .int p)] [] S R _
    refine u_st rfl (fun _ => rfl) ?_
    refine u_st rfl (fun _ => rfl) ?_
    refine u_st rfl (fun _ => rfl) ?_
    refine u_st rfl (fun _ => rfl) ?_
    show u_P L xs n d m_X9_placeAfter 17 [(0, .ref (q + 1)), (1, .int p)] [.int (p + (Int32.ofInt 1))] S R _
    exact u_ret rfl rfl ⟨_, rfl, rfl, by rw [f_X9_placeAfter, if_neg h1], rfl⟩
noncomputable abbrev m_X8_takes : g_M := (g_cn 8, yX8_takes, cX8_takes, 2, (some .boolean), g_look2 ttX8_takes)
set_option maxRecDepth 20000 in
theorem mt_X8_takes : g_mt 95 = some m_X8_takes := rfl
noncomputable def f_X8_takes (m : Int32) (S : v_Sf) : Int32 := (if (Int32.ofNat 260) < ((S 45 1) + m) then Int32.ofInt 0 else Int32.ofInt 1)
set_option maxRecDepth 4000 in
theorem c_X8_takes (L : Nat) (xs : Nat → Int32) (n d : Nat) (m : Int32) (S : v_Sf) (R : v_Rf) : u_P L xs n d m_X8_takes 0 (lv_args 0 [.ref 46, .int m]) [] S R (z_Q R (fun v S1 => f_X8_takes m S = v ∧ S = S1)) := by
  show u_P L xs n d m_X8_takes 0 [(0, .ref 46), (1, .int m)] [] S R _
  refine u_st rfl (fun _ => rfl) ?_
  show u_P L xs n d m_X8_takes 1 [(0, .ref 46), (1, .int m)] [.ref 46] S R _
  refine u_getE (v := S 45 1) rfl rfl rfl rfl ?_
  refine u_st rfl (fun _ => rfl) ?_
  refine u_st rfl (fun _ => rfl) ?_
  refine u_st rfl (fun _ => rfl) ?_
  show u_P L xs n d m_X8_takes 7 [(0, .ref 46), (1, .int m)] [.ref 46, .int ((S 45 1) + m)] S R _
  refine u_getr rfl rfl rfl ?_
  show u_P L xs n d m_X8_takes 10 [(0, .ref 46), (1, .int m)] [.ref 47, .int ((S 45 1) + m)] S R _
  refine u_al rfl rfl rfl ?_
  show u_P L xs n d m_X8_takes 11 [(0, .ref 46), (1, .int m)] [.int (Int32.ofNat 260), .int ((S 45 1) + m)] S R _
  refine u_ic_gt rfl (fun h1 => ?_) (fun h1 => ?_)
  · show u_P L xs n d m_X8_takes 18 [(0, .ref 46), (1, .int m)] [] S R _
    refine u_st rfl (fun _ => rfl) ?_
    show u_P L xs n d m_X8_takes 19 [(0, .ref 46), (1, .int m)] [.int (Int32.ofInt 0)] S R _
    exact u_retb rfl rfl ⟨_, rfl, rfl, by rw [f_X8_takes, if_pos h1], rfl⟩
  · show u_P L xs n d m_X8_takes 14 [(0, .ref 46), (1, .int m)] [] S R _
    refine u_st rfl (fun _ => rfl) ?_
    refine u_st rfl (fun _ => rfl) ?_
    show u_P L xs n d m_X8_takes 19 [(0, .ref 46), (1, .int m)] [.int (Int32.ofInt 1)] S R _
    exact u_retb rfl rfl ⟨_, rfl, rfl, by rw [f_X8_takes, if_neg h1], rfl⟩
noncomputable def f_X8_at (i : Int32) (S : v_Sf) : Int32 := (if i < 0 then Int32.ofInt (-1) else (if (S 45 1) ≤ i then Int32.ofInt (-1) else S 46 i.toInt.toNat))
set_option maxRecDepth 4000 in
theorem c_X8_at (L : Nat) (xs : Nat → Int32) (n d : Nat) (i : Int32) (S : v_Sf) (R : v_Rf) : u_P L xs n d m_X8_at 0 (lv_args 0 [.ref 46, .int i]) [] S R (z_Q R (fun v S1 => f_X8_at i S = v ∧ S = S1)) := by
  show u_P L xs n d m_X8_at 0 [(0, .ref 46), (1, .int i)] [] S R _
  refine u_st rfl (fun _ => rfl) ?_
  show u_P L xs n d m_X8_at 1 [(0, .ref 46), (1, .int i)] [.int i] S R _
  refine u_if_lt rfl (fun h1 => ?_) (fun h1 => ?_)
  · show u_P L xs n d m_X8_at 21 [(0, .ref 46), (1, .int i)] [] S R _
    refine u_st rfl (fun _ => rfl) ?_
    show u_P L xs n d m_X8_at 22 [(0, .ref 46), (1, .int i)] [.int (Int32.ofInt (-1))] S R _
    exact u_ret rfl rfl ⟨_, rfl, rfl, by rw [f_X8_at, if_pos h1], rfl⟩
  · show u_P L xs n d m_X8_at 4 [(0, .ref 46), (1, .int i)] [] S R _
    refine u_st rfl (fun _ => rfl) ?_
    refine u_st rfl (fun _ => rfl) ?_
    show u_P L xs n d m_X8_at 6 [(0, .ref 46), (1, .int i)] [.ref 46, .int i] S R _
    refine u_getE (v := S 45 1) rfl rfl rfl rfl ?_
    show u_P L xs n d m_X8_at 9 [(0, .ref 46), (1, .int i)] [.int (S 45 1), .int i] S R _
    refine u_ic_ge rfl (fun h2 => ?_) (fun h2 => ?_)
    · show u_P L xs n d m_X8_at 21 [(0, .ref 46), (1, .int i)] [] S R _
      refine u_st rfl (fun _ => rfl) ?_
      show u_P L xs n d m_X8_at 22 [(0, .ref 46), (1, .int i)] [.int (Int32.ofInt (-1))] S R _
      exact u_ret rfl rfl ⟨_, rfl, rfl, by rw [f_X8_at, if_neg h1, if_pos h2], rfl⟩
    · show u_P L xs n d m_X8_at 12 [(0, .ref 46), (1, .int i)] [] S R _
      refine u_st rfl (fun _ => rfl) ?_
      show u_P L xs n d m_X8_at 13 [(0, .ref 46), (1, .int i)] [.ref 46] S R _
      refine u_getr rfl rfl rfl ?_
      refine u_st rfl (fun _ => rfl) ?_
      show u_P L xs n d m_X8_at 17 [(0, .ref 46), (1, .int i)] [.int i, .ref 47] S R _
      refine u_ialdE (v := S 46 i.toInt.toNat) rfl rfl rfl (fun b31 b32 => ?_)
      refine u_st rfl (fun _ => rfl) ?_
      show u_P L xs n d m_X8_at 22 [(0, .ref 46), (1, .int i)] [.int (S 46 i.toInt.toNat)] S R _
      exact u_ret rfl rfl ⟨_, rfl, rfl, by rw [f_X8_at, if_neg h1, if_neg h2], rfl⟩
noncomputable abbrev m_X8_empty : g_M := (g_cn 8, yX8_empty, cX8_empty, 1, none, g_look2 ttX8_empty)
set_option maxRecDepth 20000 in
theorem mt_X8_empty : g_mt 98 = some m_X8_empty := rfl
noncomputable def g_X8_empty  (S : v_Sf) : v_Sf := z_s S 45 1 (Int32.ofInt 0)
set_option maxRecDepth 4000 in
theorem c_X8_empty (L : Nat) (xs : Nat → Int32) (n d : Nat)  (S : v_Sf) (R : v_Rf) : u_P L xs n d m_X8_empty 0 (lv_args 0 [.ref 46]) [] S R (z_V R (fun S1 => g_X8_empty  S = S1)) := by
  show u_P L xs n d m_X8_empty 0 [(0, .ref 46)] [] S R _
  refine u_st rfl (fun _ => rfl) ?_
  refine u_st rfl (fun _ => rfl) ?_
  show u_P L xs n d m_X8_empty 2 [(0, .ref 46)] [.int (Int32.ofInt 0), .ref 46] S R _
  refine u_put rfl rfl rfl ?_
  show u_P L xs n d m_X8_empty 5 [(0, .ref 46)] [] (z_s S 45 1 (Int32.ofInt 0)) R _
  exact u_ret rfl rfl ⟨rfl, rfl, rfl⟩
noncomputable def g_X1_clear (c : Nat) (S : v_Sf) : v_Sf := z_s (z_s S c 6 (Int32.ofInt 0)) c 7 (Int32.ofInt 0)
set_option maxRecDepth 4000 in
theorem c_X1_clear (L : Nat) (xs : Nat → Int32) (n d : Nat) (c : Nat) (hc : z_cd c) (S : v_Sf) (R : v_Rf) : u_P L xs n d m_X1_clear 0 (lv_args 0 [.ref (c + 1)]) [] S R (z_V R (fun S1 => g_X1_clear c S = S1)) := by
  show u_P L xs n d m_X1_clear 0 [(0, .ref (c + 1))] [] S R _
  refine u_st rfl (fun _ => rfl) ?_
  refine u_st rfl (fun _ => rfl) ?_
  show u_P L xs n d m_X1_clear 2 [(0, .ref (c + 1))] [.int (Int32.ofInt 0), .ref (c + 1)] S R _
  refine u_put rfl (z_cd0 hc) rfl ?_
  refine u_st rfl (fun _ => rfl) ?_
  refine u_st rfl (fun _ => rfl) ?_
  show u_P L xs n d m_X1_clear 7 [(0, .ref (c + 1))] [.int (Int32.ofInt 0), .ref (c + 1)] (z_s S c 6 (Int32.ofInt 0)) R _
  refine u_put rfl (z_cd0 hc) rfl ?_
  show u_P L xs n d m_X1_clear 10 [(0, .ref (c + 1))] [] (z_s (z_s S c 6 (Int32.ofInt 0)) c 7 (Int32.ofInt 0)) R _
  exact u_ret rfl rfl ⟨rfl, rfl, rfl⟩
noncomputable abbrev m_X1_openClause : g_M := (g_cn 1, yX1_openClause, cX1_openClause, 2, none, g_look2 ttX1_openClause)
set_option maxRecDepth 20000 in
theorem mt_X1_openClause : g_mt 14 = some m_X1_openClause := rfl
noncomputable def g_X1_openClause (c : Nat) (a : Int32) (S : v_Sf) : v_Sf := (if (Int32.ofInt 16) ≤ (S c 7) then S else z_s (z_s S (c + 4) ((S c 7).toInt.toNat) a) (c + 5) ((S c 7).toInt.toNat) (S c 6))
set_option maxRecDepth 4000 in
theorem c_X1_openClause (L : Nat) (xs : Nat → Int32) (n d : Nat) (c : Nat) (hc : z_cd c) (a : Int32) (S : v_Sf) (R : v_Rf) : u_P L xs n d m_X1_openClause 0 (lv_args 0 [.ref (c + 1), .int a]) [] S R (z_V R (fun S1 => g_X1_openClause c a S = S1)) := by
  show u_P L xs n d m_X1_openClause 0 [(0, .ref (c + 1)), (1, .int a)] [] S R _
  refine u_st rfl (fun _ => rfl) ?_
  show u_P L xs n d m_X1_openClause 1 [(0, .ref (c + 1)), (1, .int a)] [.ref (c + 1)] S R _
  refine u_getE (v := S c 7) rfl (z_cd0 hc) rfl rfl ?_
  refine u_st rfl (fun _ => rfl) ?_
  show u_P L xs n d m_X1_openClause 6 [(0, .ref (c + 1)), (1, .int a)] [.int (Int32.ofInt 16), .int (S c 7)] S R _
  refine u_ic_ge rfl (fun h1 => ?_) (fun h1 => ?_)
  · show u_P L xs n d m_X1_openClause 32 [(0, .ref (c + 1)), (1, .int a)] [] S R _
    exact u_ret rfl rfl ⟨rfl, rfl, by rw [g_X1_openClause, if_pos h1]⟩
  · show u_P L xs n d m_X1_openClause 9 [(0, .ref (c + 1)), (1, .int a)] [] S R _
    refine u_st rfl (fun _ => rfl) ?_
    show u_P L xs n d m_X1_openClause 10 [(0, .ref (c + 1)), (1, .int a)] [.ref (c + 1)] S R _
    refine u_getr rfl (z_cd0 hc) rfl ?_
    refine u_st rfl (fun _ => rfl) ?_
    show u_P L xs n d m_X1_openClause 14 [(0, .ref (c + 1)), (1, .int a)] [.ref (c + 1), .ref (c + 5)] S R _
    refine u_getE (v := S c 7) rfl (z_cd0 hc) rfl rfl ?_
    refine u_st rfl (fun _ => rfl) ?_
    show u_P L xs n d m_X1_openClause 18 [(0, .ref (c + 1)), (1, .int a)] [.int a, .int (S c 7), .ref (c + 5)] S R _
    refine u_iast rfl (z_cd4 hc) (fun b21 b22 => ?_)
    refine u_st rfl (fun _ => rfl) ?_
    show u_P L xs n d m_X1_openClause 20 [(0, .ref (c + 1)), (1, .int a)] [.ref (c + 1)] (z_s S (c + 4) ((S c 7).toInt.toNat) a) R _
    refine u_getr rfl (z_cd0 hc) rfl ?_
    refine u_st rfl (fun _ => rfl) ?_
    show u_P L xs n d m_X1_openClause 24 [(0, .ref (c + 1)), (1, .int a)] [.ref (c + 1), .ref (c + 6)] (z_s S (c + 4) ((S c 7).toInt.toNat) a) R _
    refine u_getE (v := S c 7) rfl (z_cd0 hc) rfl (z_sn (fun h => absurd h.1 (by omega))) ?_
    refine u_st rfl (fun _ => rfl) ?_
    show u_P L xs n d m_X1_openClause 28 [(0, .ref (c + 1)), (1, .int a)] [.ref (c + 1), .int (S c 7), .ref (c + 6)] (z_s S (c + 4) ((S c 7).toInt.toNat) a) R _
    refine u_getE (v := S c 6) rfl (z_cd0 hc) rfl (z_sn (fun h => absurd h.1 (by omega))) ?_
    show u_P L xs n d m_X1_openClause 31 [(0, .ref (c + 1)), (1, .int a)] [.int (S c 6), .int (S c 7), .ref (c + 6)] (z_s S (c + 4) ((S c 7).toInt.toNat) a) R _
    refine u_iast rfl (z_cd5 hc) (fun b31 b32 => ?_)
    show u_P L xs n d m_X1_openClause 32 [(0, .ref (c + 1)), (1, .int a)] [] (z_s (z_s S (c + 4) ((S c 7).toInt.toNat) a) (c + 5) ((S c 7).toInt.toNat) (S c 6)) R _
    exact u_ret rfl rfl ⟨rfl, rfl, by rw [g_X1_openClause, if_neg h1]⟩
noncomputable abbrev m_X1_openCondition : g_M := (g_cn 1, yX1_openCondition, cX1_openCondition, 1, none, g_look2 ttX1_openCondition)
set_option maxRecDepth 20000 in
theorem mt_X1_openCondition : g_mt 15 = some m_X1_openCondition := rfl
noncomputable def g_X1_openCondition (c : Nat) (S : v_Sf) : v_Sf := (if (Int32.ofInt 16) ≤ (S c 7) then S else z_s S (c + 6) ((S c 7).toInt.toNat) (S c 6))
set_option maxRecDepth 4000 in
theorem c_X1_openCondition (L : Nat) (xs : Nat → Int32) (n d : Nat) (c : Nat) (hc : z_cd c) (S : v_Sf) (R : v_Rf) : u_P L xs n d m_X1_openCondition 0 (lv_args 0 [.ref (c + 1)]) [] S R (z_V R (fun S1 => g_X1_openCondition c S = S1)) := by
  show u_P L xs n d m_X1_openCondition 0 [(0, .ref (c + 1))] [] S R _
  refine u_st rfl (fun _ => rfl) ?_
  show u_P L xs n d m_X1_openCondition 1 [(0, .ref (c + 1))] [.ref (c + 1)] S R _
  refine u_getE (v := S c 7) rfl (z_cd0 hc) rfl rfl ?_
  refine u_st rfl (fun _ => rfl) ?_
  show u_P L xs n d m_X1_openCondition 6 [(0, .ref (c + 1))] [.int (Int32.ofInt 16), .int (S c 7)] S R _
  refine u_ic_ge rfl (fun h1 => ?_) (fun h1 => ?_)
  · show u_P L xs n d m_X1_openCondition 22 [(0, .ref (c + 1))] [] S R _
    exact u_ret rfl rfl ⟨rfl, rfl, by rw [g_X1_openCondition, if_pos h1]⟩
  · show u_P L xs n d m_X1_openCondition 9 [(0, .ref (c + 1))] [] S R _
    refine u_st rfl (fun _ => rfl) ?_
    show u_P L xs n d m_X1_openCondition 10 [(0, .ref (c + 1))] [.ref (c + 1)] S R _
    refine u_getr rfl (z_cd0 hc) rfl ?_
    refine u_st rfl (fun _ => rfl) ?_
    show u_P L xs n d m_X1_openCondition 14 [(0, .ref (c + 1))] [.ref (c + 1), .ref (c + 7)] S R _
    refine u_getE (v := S c 7) rfl (z_cd0 hc) rfl rfl ?_
    refine u_st rfl (fun _ => rfl) ?_
    show u_P L xs n d m_X1_openCondition 18 [(0, .ref (c + 1))] [.ref (c + 1), .int (S c 7), .ref (c + 7)] S R _
    refine u_getE (v := S c 6) rfl (z_cd0 hc) rfl rfl ?_
    show u_P L xs n d m_X1_openCondition 21 [(0, .ref (c + 1))] [.int (S c 6), .int (S c 7), .ref (c + 7)] S R _
    refine u_iast rfl (z_cd6 hc) (fun b21 b22 => ?_)
    show u_P L xs n d m_X1_openCondition 22 [(0, .ref (c + 1))] [] (z_s S (c + 6) ((S c 7).toInt.toNat) (S c 6)) R _
    exact u_ret rfl rfl ⟨rfl, rfl, by rw [g_X1_openCondition, if_neg h1]⟩
noncomputable abbrev m_X1_closeClause : g_M := (g_cn 1, yX1_closeClause, cX1_closeClause, 1, none, g_look2 ttX1_closeClause)
set_option maxRecDepth 20000 in
theorem mt_X1_closeClause : g_mt 16 = some m_X1_closeClause := rfl
noncomputable def g_X1_closeClause (c : Nat) (S : v_Sf) : v_Sf := (if (Int32.ofInt 16) ≤ (S c 7) then S else z_s S c 7 ((S c 7) + (Int32.ofInt 1)))
set_option maxRecDepth 4000 in
theorem c_X1_closeClause (L : Nat) (xs : Nat → Int32) (n d : Nat) (c : Nat) (hc : z_cd c) (S : v_Sf) (R : v_Rf) : u_P L xs n d m_X1_closeClause 0 (lv_args 0 [.ref (c + 1)]) [] S R (z_V R (fun S1 => g_X1_closeClause c S = S1)) := by
  show u_P L xs n d m_X1_closeClause 0 [(0, .ref (c + 1))] [] S R _
  refine u_st rfl (fun _ => rfl) ?_
  show u_P L xs n d m_X1_closeClause 1 [(0, .ref (c + 1))] [.ref (c + 1)] S R _
  refine u_getE (v := S c 7) rfl (z_cd0 hc) rfl rfl ?_
  refine u_st rfl (fun _ => rfl) ?_
  show u_P L xs n d m_X1_closeClause 6 [(0, .ref (c + 1))] [.int (Int32.ofInt 16), .int (S c 7)] S R _
  refine u_ic_ge rfl (fun h1 => ?_) (fun h1 => ?_)
  · show u_P L xs n d m_X1_closeClause 19 [(0, .ref (c + 1))] [] S R _
    exact u_ret rfl rfl ⟨rfl, rfl, by rw [g_X1_closeClause, if_pos h1]⟩
  · show u_P L xs n d m_X1_closeClause 9 [(0, .ref (c + 1))] [] S R _
    refine u_st rfl (fun _ => rfl) ?_
    refine u_st rfl (fun _ => rfl) ?_
    show u_P L xs n d m_X1_closeClause 11 [(0, .ref (c + 1))] [.ref (c + 1), .ref (c + 1)] S R _
    refine u_getE (v := S c 7) rfl (z_cd0 hc) rfl rfl ?_
    refine u_st rfl (fun _ => rfl) ?_
    refine u_st rfl (fun _ => rfl) ?_
    show u_P L xs n d m_X1_closeClause 16 [(0, .ref (c + 1))] [.int ((S c 7) + (Int32.ofInt 1)), .ref (c + 1)] S R _
    refine u_put rfl (z_cd0 hc) rfl ?_
    show u_P L xs n d m_X1_closeClause 19 [(0, .ref (c + 1))] [] (z_s S c 7 ((S c 7) + (Int32.ofInt 1))) R _
    exact u_ret rfl rfl ⟨rfl, rfl, by rw [g_X1_closeClause, if_neg h1]⟩
noncomputable abbrev m_X1_put : g_M := (g_cn 1, yX1_put, cX1_put, 3, (some .int), g_look2 ttX1_put)
set_option maxRecDepth 20000 in
theorem mt_X1_put : g_mt 17 = some m_X1_put := rfl
noncomputable def f_X1_put (c : Nat) (a : Int32) (b : Int32) (S : v_Sf) : Int32 := (if (S c 6) < (Int32.ofNat 256) then ((S c 6) + (Int32.ofInt 1)) - (Int32.ofInt 1) else Int32.ofInt (-1))
noncomputable def g_X1_put (c : Nat) (a : Int32) (b : Int32) (S : v_Sf) : v_Sf := (if (S c 6) < (Int32.ofNat 256) then z_s (z_s (z_s S (c + 1) ((S c 6).toInt.toNat) a) (c + 2) ((S c 6).toInt.toNat) b) c 6 ((S c 6) + (Int32.ofInt 1)) else S)
set_option maxRecDepth 4000 in
theorem c_X1_put (L : Nat) (xs : Nat → Int32) (n d : Nat) (c : Nat) (hc : z_cd c) (a : Int32) (b : Int32) (S : v_Sf) (R : v_Rf) : u_P L xs n d m_X1_put 0 (lv_args 0 [.ref (c + 1), .int a, .int b]) [] S R (z_Q R (fun v S1 => f_X1_put c a b S = v ∧ g_X1_put c a b S = S1)) := by
  show u_P L xs n d m_X1_put 0 [(0, .ref (c + 1)), (1, .int a), (2, .int b)] [] S R _
  refine u_st rfl (fun _ => rfl) ?_
  show u_P L xs n d m_X1_put 1 [(0, .ref (c + 1)), (1, .int a), (2, .int b)] [.ref (c + 1)] S R _
  refine u_getE (v := S c 6) rfl (z_cd0 hc) rfl rfl ?_
  refine u_st rfl (fun _ => rfl) ?_
  show u_P L xs n d m_X1_put 5 [(0, .ref (c + 1)), (1, .int a), (2, .int b)] [.ref (c + 1), .int (S c 6)] S R _
  refine u_getr rfl (z_cd0 hc) rfl ?_
  show u_P L xs n d m_X1_put 8 [(0, .ref (c + 1)), (1, .int a), (2, .int b)] [.ref (c + 2), .int (S c 6)] S R _
  refine u_al rfl (z_cd1 hc) rfl ?_
  show u_P L xs n d m_X1_put 9 [(0, .ref (c + 1)), (1, .int a), (2, .int b)] [.int (Int32.ofNat 256), .int (S c 6)] S R _
  refine u_ic_lt rfl (fun h1 => ?_) (fun h1 => ?_)
  · show u_P L xs n d m_X1_put 14 [(0, .ref (c + 1)), (1, .int a), (2, .int b)] [] S R _
    refine u_st rfl (fun _ => rfl) ?_
    show u_P L xs n d m_X1_put 15 [(0, .ref (c + 1)), (1, .int a), (2, .int b)] [.ref (c + 1)] S R _
    refine u_getr rfl (z_cd0 hc) rfl ?_
    refine u_st rfl (fun _ => rfl) ?_
    show u_P L xs n d m_X1_put 19 [(0, .ref (c + 1)), (1, .int a), (2, .int b)] [.ref (c + 1), .ref (c + 2)] S R _
    refine u_getE (v := S c 6) rfl (z_cd0 hc) rfl rfl ?_
    refine u_st rfl (fun _ => rfl) ?_
    show u_P L xs n d m_X1_put 23 [(0, .ref (c + 1)), (1, .int a), (2, .int b)] [.int a, .int (S c 6), .ref (c + 2)] S R _
    refine u_iast rfl (z_cd1 hc) (fun b21 b22 => ?_)
    refine u_st rfl (fun _ => rfl) ?_
    show u_P L xs n d m_X1_put 25 [(0, .ref (c + 1)), (1, .int a), (2, .int b)] [.ref (c + 1)] (z_s S (c + 1) ((S c 6).toInt.toNat) a) R _
    refine u_getr rfl (z_cd0 hc) rfl ?_
    refine u_st rfl (fun _ => rfl) ?_
    show u_P L xs n d m_X1_put 29 [(0, .ref (c + 1)), (1, .int a), (2, .int b)] [.ref (c + 1), .ref (c + 3)] (z_s S (c + 1) ((S c 6).toInt.toNat) a) R _
    refine u_getE (v := S c 6) rfl (z_cd0 hc) rfl (z_sn (fun h => absurd h.1 (by omega))) ?_
    refine u_st rfl (fun _ => rfl) ?_
    show u_P L xs n d m_X1_put 33 [(0, .ref (c + 1)), (1, .int a), (2, .int b)] [.int b, .int (S c 6), .ref (c + 3)] (z_s S (c + 1) ((S c 6).toInt.toNat) a) R _
    refine u_iast rfl (z_cd2 hc) (fun b31 b32 => ?_)
    refine u_st rfl (fun _ => rfl) ?_
    refine u_st rfl (fun _ => rfl) ?_
    show u_P L xs n d m_X1_put 36 [(0, .ref (c + 1)), (1, .int a), (2, .int b)] [.ref (c + 1), .ref (c + 1)] (z_s (z_s S (c + 1) ((S c 6).toInt.toNat) a) (c + 2) ((S c 6).toInt.toNat) b) R _
    refine u_getE (v := S c 6) rfl (z_cd0 hc) rfl ((z_sn (fun h => absurd h.1 (by omega))).trans (z_sn (fun h => absurd h.1 (by omega)))) ?_
    refine u_st rfl (fun _ => rfl) ?_
    refine u_st rfl (fun _ => rfl) ?_
    show u_P L xs n d m_X1_put 41 [(0, .ref (c + 1)), (1, .int a), (2, .int b)] [.int ((S c 6) + (Int32.ofInt 1)), .ref (c + 1)] (z_s (z_s S (c + 1) ((S c 6).toInt.toNat) a) (c + 2) ((S c 6).toInt.toNat) b) R _
    refine u_put rfl (z_cd0 hc) rfl ?_
    refine u_st rfl (fun _ => rfl) ?_
    show u_P L xs n d m_X1_put 45 [(0, .ref (c + 1)), (1, .int a), (2, .int b)] [.ref (c + 1)] (z_s (z_s (z_s S (c + 1) ((S c 6).toInt.toNat) a) (c + 2) ((S c 6).toInt.toNat) b) c 6 ((S c 6) + (Int32.ofInt 1))) R _
    refine u_getE (v := (S c 6) + (Int32.ofInt 1)) rfl (z_cd0 hc) rfl z_ss ?_
    refine u_st rfl (fun _ => rfl) ?_
    refine u_st rfl (fun _ => rfl) ?_
    show u_P L xs n d m_X1_put 50 [(0, .ref (c + 1)), (1, .int a), (2, .int b)] [.int (((S c 6) + (Int32.ofInt 1)) - (Int32.ofInt 1))] (z_s (z_s (z_s S (c + 1) ((S c 6).toInt.toNat) a) (c + 2) ((S c 6).toInt.toNat) b) c 6 ((S c 6) + (Int32.ofInt 1))) R _
    exact u_ret rfl rfl ⟨_, rfl, rfl, by rw [f_X1_put, if_pos h1], by rw [g_X1_put, if_pos h1]⟩
  · show u_P L xs n d m_X1_put 12 [(0, .ref (c + 1)), (1, .int a), (2, .int b)] [] S R _
    refine u_st rfl (fun _ => rfl) ?_
    show u_P L xs n d m_X1_put 13 [(0, .ref (c + 1)), (1, .int a), (2, .int b)] [.int (Int32.ofInt (-1))] S R _
    exact u_ret rfl rfl ⟨_, rfl, rfl, by rw [f_X1_put, if_neg h1], by rw [g_X1_put, if_neg h1]⟩
noncomputable abbrev m_X1_land : g_M := (g_cn 1, yX1_land, cX1_land, 2, none, g_look2 ttX1_land)
set_option maxRecDepth 20000 in
theorem mt_X1_land : g_mt 18 = some m_X1_land := rfl
noncomputable def g_X1_land (c : Nat) (a : Int32) (S : v_Sf) : v_Sf := (if a < 0 then S else (if (S c 6) ≤ a then S else z_s S (c + 2) a.toInt.toNat (S c 6)))
set_option maxRecDepth 4000 in
theorem c_X1_land (L : Nat) (xs : Nat → Int32) (n d : Nat) (c : Nat) (hc : z_cd c) (a : Int32) (S : v_Sf) (R : v_Rf) : u_P L xs n d m_X1_land 0 (lv_args 0 [.ref (c + 1), .int a]) [] S R (z_V R (fun S1 => g_X1_land c a S = S1)) := by
  show u_P L xs n d m_X1_land 0 [(0, .ref (c + 1)), (1, .int a)] [] S R _
  refine u_st rfl (fun _ => rfl) ?_
  show u_P L xs n d m_X1_land 1 [(0, .ref (c + 1)), (1, .int a)] [.int a] S R _
  refine u_if_lt rfl (fun h1 => ?_) (fun h1 => ?_)
  · show u_P L xs n d m_X1_land 22 [(0, .ref (c + 1)), (1, .int a)] [] S R _
    exact u_ret rfl rfl ⟨rfl, rfl, by rw [g_X1_land, if_pos h1]⟩
  · show u_P L xs n d m_X1_land 4 [(0, .ref (c + 1)), (1, .int a)] [] S R _
    refine u_st rfl (fun _ => rfl) ?_
    refine u_st rfl (fun _ => rfl) ?_
    show u_P L xs n d m_X1_land 6 [(0, .ref (c + 1)), (1, .int a)] [.ref (c + 1), .int a] S R _
    refine u_getE (v := S c 6) rfl (z_cd0 hc) rfl rfl ?_
    show u_P L xs n d m_X1_land 9 [(0, .ref (c + 1)), (1, .int a)] [.int (S c 6), .int a] S R _
    refine u_ic_ge rfl (fun h2 => ?_) (fun h2 => ?_)
    · show u_P L xs n d m_X1_land 22 [(0, .ref (c + 1)), (1, .int a)] [] S R _
      exact u_ret rfl rfl ⟨rfl, rfl, by rw [g_X1_land, if_neg h1, if_pos h2]⟩
    · show u_P L xs n d m_X1_land 12 [(0, .ref (c + 1)), (1, .int a)] [] S R _
      refine u_st rfl (fun _ => rfl) ?_
      show u_P L xs n d m_X1_land 13 [(0, .ref (c + 1)), (1, .int a)] [.ref (c + 1)] S R _
      refine u_getr rfl (z_cd0 hc) rfl ?_
      refine u_st rfl (fun _ => rfl) ?_
      refine u_st rfl (fun _ => rfl) ?_
      show u_P L xs n d m_X1_land 18 [(0, .ref (c + 1)), (1, .int a)] [.ref (c + 1), .int a, .ref (c + 3)] S R _
      refine u_getE (v := S c 6) rfl (z_cd0 hc) rfl rfl ?_
      show u_P L xs n d m_X1_land 21 [(0, .ref (c + 1)), (1, .int a)] [.int (S c 6), .int a, .ref (c + 3)] S R _
      refine u_iast rfl (z_cd2 hc) (fun b31 b32 => ?_)
      show u_P L xs n d m_X1_land 22 [(0, .ref (c + 1)), (1, .int a)] [] (z_s S (c + 2) a.toInt.toNat (S c 6)) R _
      exact u_ret rfl rfl ⟨rfl, rfl, by rw [g_X1_land, if_neg h1, if_neg h2]⟩
noncomputable abbrev m_X1_valueAt : g_M := (g_cn 1, yX1_valueAt, cX1_valueAt, 2, (some .int), g_look2 ttX1_valueAt)
set_option maxRecDepth 20000 in
theorem mt_X1_valueAt : g_mt 20 = some m_X1_valueAt := rfl
noncomputable def f_X1_valueAt (i : Int32) (S : v_Sf) : Int32 := (if i < 0 then Int32.ofInt 0 else (if (Int32.ofNat 15) ≤ i then Int32.ofInt 0 else S 51 i.toInt.toNat))
set_option maxRecDepth 4000 in
theorem c_X1_valueAt (L : Nat) (xs : Nat → Int32) (n d : Nat) (i : Int32) (S : v_Sf) (R : v_Rf) : u_P L xs n d m_X1_valueAt 0 (lv_args 0 [.ref 52, .int i]) [] S R (z_Q R (fun v S1 => f_X1_valueAt i S = v ∧ S = S1)) := by
  show u_P L xs n d m_X1_valueAt 0 [(0, .ref 52), (1, .int i)] [] S R _
  refine u_st rfl (fun _ => rfl) ?_
  show u_P L xs n d m_X1_valueAt 1 [(0, .ref 52), (1, .int i)] [.int i] S R _
  refine u_if_lt rfl (fun h1 => ?_) (fun h1 => ?_)
  · show u_P L xs n d m_X1_valueAt 16 [(0, .ref 52), (1, .int i)] [] S R _
    refine u_st rfl (fun _ => rfl) ?_
    show u_P L xs n d m_X1_valueAt 17 [(0, .ref 52), (1, .int i)] [.int (Int32.ofInt 0)] S R _
    exact u_ret rfl rfl ⟨_, rfl, rfl, by rw [f_X1_valueAt, if_pos h1], rfl⟩
  · show u_P L xs n d m_X1_valueAt 4 [(0, .ref 52), (1, .int i)] [] S R _
    refine u_st rfl (fun _ => rfl) ?_
    refine u_st rfl (fun _ => rfl) ?_
    show u_P L xs n d m_X1_valueAt 6 [(0, .ref 52), (1, .int i)] [.ref 52, .int i] S R _
    refine u_al rfl rfl rfl ?_
    show u_P L xs n d m_X1_valueAt 7 [(0, .ref 52), (1, .int i)] [.int (Int32.ofNat 15), .int i] S R _
    refine u_ic_ge rfl (fun h2 => ?_) (fun h2 => ?_)
    · show u_P L xs n d m_X1_valueAt 16 [(0, .ref 52), (1, .int i)] [] S R _
      refine u_st rfl (fun _ => rfl) ?_
      show u_P L xs n d m_X1_valueAt 17 [(0, .ref 52), (1, .int i)] [.int (Int32.ofInt 0)] S R _
      exact u_ret rfl rfl ⟨_, rfl, rfl, by rw [f_X1_valueAt, if_neg h1, if_pos h2], rfl⟩
    · show u_P L xs n d m_X1_valueAt 10 [(0, .ref 52), (1, .int i)] [] S R _
      refine u_st rfl (fun _ => rfl) ?_
      refine u_st rfl (fun _ => rfl) ?_
      show u_P L xs n d m_X1_valueAt 12 [(0, .ref 52), (1, .int i)] [.int i, .ref 52] S R _
      refine u_ialdE (v := S 51 i.toInt.toNat) rfl rfl rfl (fun b31 b32 => ?_)
      refine u_st rfl (fun _ => rfl) ?_
      show u_P L xs n d m_X1_valueAt 17 [(0, .ref 52), (1, .int i)] [.int (S 51 i.toInt.toNat)] S R _
      exact u_ret rfl rfl ⟨_, rfl, rfl, by rw [f_X1_valueAt, if_neg h1, if_neg h2], rfl⟩
noncomputable abbrev m_X1_join : g_M := (g_cn 1, yX1_join, cX1_join, 3, (some .int), g_look2 ttX1_join)
set_option maxRecDepth 20000 in
theorem mt_X1_join : g_mt 21 = some m_X1_join := rfl
noncomputable def f_X1_join (a : Int32) (b : Int32) (c : Int32) : Int32 := (if a = Int32.ofInt 37 then (if ¬ c = 0 then b - b / c * c else Int32.ofInt 0) else (if a = Int32.ofInt 42 then b * c else (if a = Int32.ofInt 43 then b + c else (if a = Int32.ofInt 45 then b - c else (if a = Int32.ofInt 47 then (if ¬ c = 0 then b / c else Int32.ofInt 0) else (if a = Int32.ofInt 60 then (if c ≤ b then Int32.ofInt 0 else Int32.ofInt 1) else (if a = Int32.ofInt 62 then (if b ≤ c then Int32.ofInt 0 else Int32.ofInt 1) else (if ¬ b = c then Int32.ofInt 0 else Int32.ofInt 1))))))))
set_option maxRecDepth 4000 in
theorem c_X1_join (L : Nat) (xs : Nat → Int32) (n d : Nat) (a : Int32) (b : Int32) (c : Int32) (S : v_Sf) (R : v_Rf) : u_P L xs n d m_X1_join 0 (lv_args 0 [.int a, .int b, .int c]) [] S R (z_Q R (fun v S1 => f_X1_join a b c = v ∧ S = S1)) := by
  show u_P L xs n d m_X1_join 0 [(0, .int a), (1, .int b), (2, .int c)] [] S R _
  refine u_st rfl (fun _ => rfl) ?_
  show u_P L xs n d m_X1_join 1 [(0, .int a), (1, .int b), (2, .int c)] [.int a] S R _
  by_cases h1_0 : a = Int32.ofInt 37
  · refine u_jm (t := 92) (sc1 := []) rfl rfl rfl (by rw [h1_0]; rfl) ?_
    show u_P L xs n d m_X1_join 92 [(0, .int a), (1, .int b), (2, .int c)] [] S R _
    refine u_st rfl (fun _ => rfl) ?_
    show u_P L xs n d m_X1_join 93 [(0, .int a), (1, .int b), (2, .int c)] [.int c] S R _
    refine u_if_ne rfl (fun h2 => ?_) (fun h2 => ?_)
    · show u_P L xs n d m_X1_join 100 [(0, .int a), (1, .int b), (2, .int c)] [] S R _
      refine u_st rfl (fun _ => rfl) ?_
      refine u_st rfl (fun _ => rfl) ?_
      show u_P L xs n d m_X1_join 102 [(0, .int a), (1, .int b), (2, .int c)] [.int c, .int b] S R _
      refine u_irem rfl (fun b3 => ?_)
      show u_P L xs n d m_X1_join 103 [(0, .int a), (1, .int b), (2, .int c)] [.int (b - b / c * c)] S R _
      exact u_ret rfl rfl ⟨_, rfl, rfl, by rw [f_X1_join, if_pos h1_0, if_pos h2], rfl⟩
    · show u_P L xs n d m_X1_join 96 [(0, .int a), (1, .int b), (2, .int c)] [] S R _
      refine u_st rfl (fun _ => rfl) ?_
      refine u_st rfl (fun _ => rfl) ?_
      show u_P L xs n d m_X1_join 103 [(0, .int a), (1, .int b), (2, .int c)] [.int (Int32.ofInt 0)] S R _
      exact u_ret rfl rfl ⟨_, rfl, rfl, by rw [f_X1_join, if_pos h1_0, if_neg h2], rfl⟩
  · by_cases h1_1 : a = Int32.ofInt 42
    · refine u_jm (t := 76) (sc1 := []) rfl rfl rfl (by rw [h1_1]; rfl) ?_
      show u_P L xs n d m_X1_join 76 [(0, .int a), (1, .int b), (2, .int c)] [] S R _
      refine u_st rfl (fun _ => rfl) ?_
      refine u_st rfl (fun _ => rfl) ?_
      refine u_st rfl (fun _ => rfl) ?_
      show u_P L xs n d m_X1_join 79 [(0, .int a), (1, .int b), (2, .int c)] [.int (b * c)] S R _
      exact u_ret rfl rfl ⟨_, rfl, rfl, by rw [f_X1_join, if_neg h1_0, if_pos h1_1], rfl⟩
    · by_cases h1_2 : a = Int32.ofInt 43
      · refine u_jm (t := 68) (sc1 := []) rfl rfl rfl (by rw [h1_2]; rfl) ?_
        show u_P L xs n d m_X1_join 68 [(0, .int a), (1, .int b), (2, .int c)] [] S R _
        refine u_st rfl (fun _ => rfl) ?_
        refine u_st rfl (fun _ => rfl) ?_
        refine u_st rfl (fun _ => rfl) ?_
        show u_P L xs n d m_X1_join 71 [(0, .int a), (1, .int b), (2, .int c)] [.int (b + c)] S R _
        exact u_ret rfl rfl ⟨_, rfl, rfl, by rw [f_X1_join, if_neg h1_0, if_neg h1_1, if_pos h1_2], rfl⟩
      · by_cases h1_3 : a = Int32.ofInt 45
        · refine u_jm (t := 72) (sc1 := []) rfl rfl rfl (by rw [h1_3]; rfl) ?_
          show u_P L xs n d m_X1_join 72 [(0, .int a), (1, .int b), (2, .int c)] [] S R _
          refine u_st rfl (fun _ => rfl) ?_
          refine u_st rfl (fun _ => rfl) ?_
          refine u_st rfl (fun _ => rfl) ?_
          show u_P L xs n d m_X1_join 75 [(0, .int a), (1, .int b), (2, .int c)] [.int (b - c)] S R _
          exact u_ret rfl rfl ⟨_, rfl, rfl, by rw [f_X1_join, if_neg h1_0, if_neg h1_1, if_neg h1_2, if_pos h1_3], rfl⟩
        · by_cases h1_4 : a = Int32.ofInt 47
          · refine u_jm (t := 80) (sc1 := []) rfl rfl rfl (by rw [h1_4]; rfl) ?_
            show u_P L xs n d m_X1_join 80 [(0, .int a), (1, .int b), (2, .int c)] [] S R _
            refine u_st rfl (fun _ => rfl) ?_
            show u_P L xs n d m_X1_join 81 [(0, .int a), (1, .int b), (2, .int c)] [.int c] S R _
            refine u_if_ne rfl (fun h4 => ?_) (fun h4 => ?_)
            · show u_P L xs n d m_X1_join 88 [(0, .int a), (1, .int b), (2, .int c)] [] S R _
              refine u_st rfl (fun _ => rfl) ?_
              refine u_st rfl (fun _ => rfl) ?_
              show u_P L xs n d m_X1_join 90 [(0, .int a), (1, .int b), (2, .int c)] [.int c, .int b] S R _
              refine u_idiv rfl (fun b5 => ?_)
              show u_P L xs n d m_X1_join 91 [(0, .int a), (1, .int b), (2, .int c)] [.int (b / c)] S R _
              exact u_ret rfl rfl ⟨_, rfl, rfl, by rw [f_X1_join, if_neg h1_0, if_neg h1_1, if_neg h1_2, if_neg h1_3, if_pos h1_4, if_pos h4], rfl⟩
            · show u_P L xs n d m_X1_join 84 [(0, .int a), (1, .int b), (2, .int c)] [] S R _
              refine u_st rfl (fun _ => rfl) ?_
              refine u_st rfl (fun _ => rfl) ?_
              show u_P L xs n d m_X1_join 91 [(0, .int a), (1, .int b), (2, .int c)] [.int (Int32.ofInt 0)] S R _
              exact u_ret rfl rfl ⟨_, rfl, rfl, by rw [f_X1_join, if_neg h1_0, if_neg h1_1, if_neg h1_2, if_neg h1_3, if_pos h1_4, if_neg h4], rfl⟩
          · by_cases h1_5 : a = Int32.ofInt 60
            · refine u_jm (t := 104) (sc1 := []) rfl rfl rfl (by rw [h1_5]; rfl) ?_
              show u_P L xs n d m_X1_join 104 [(0, .int a), (1, .int b), (2, .int c)] [] S R _
              refine u_st rfl (fun _ => rfl) ?_
              refine u_st rfl (fun _ => rfl) ?_
              show u_P L xs n d m_X1_join 106 [(0, .int a), (1, .int b), (2, .int c)] [.int c, .int b] S R _
              refine u_ic_ge rfl (fun h6 => ?_) (fun h6 => ?_)
              · show u_P L xs n d m_X1_join 113 [(0, .int a), (1, .int b), (2, .int c)] [] S R _
                refine u_st rfl (fun _ => rfl) ?_
                show u_P L xs n d m_X1_join 114 [(0, .int a), (1, .int b), (2, .int c)] [.int (Int32.ofInt 0)] S R _
                exact u_ret rfl rfl ⟨_, rfl, rfl, by rw [f_X1_join, if_neg h1_0, if_neg h1_1, if_neg h1_2, if_neg h1_3, if_neg h1_4, if_pos h1_5, if_pos h6], rfl⟩
              · show u_P L xs n d m_X1_join 109 [(0, .int a), (1, .int b), (2, .int c)] [] S R _
                refine u_st rfl (fun _ => rfl) ?_
                refine u_st rfl (fun _ => rfl) ?_
                show u_P L xs n d m_X1_join 114 [(0, .int a), (1, .int b), (2, .int c)] [.int (Int32.ofInt 1)] S R _
                exact u_ret rfl rfl ⟨_, rfl, rfl, by rw [f_X1_join, if_neg h1_0, if_neg h1_1, if_neg h1_2, if_neg h1_3, if_neg h1_4, if_pos h1_5, if_neg h6], rfl⟩
            · by_cases h1_6 : a = Int32.ofInt 62
              · refine u_jm (t := 115) (sc1 := []) rfl rfl rfl (by rw [h1_6]; rfl) ?_
                show u_P L xs n d m_X1_join 115 [(0, .int a), (1, .int b), (2, .int c)] [] S R _
                refine u_st rfl (fun _ => rfl) ?_
                refine u_st rfl (fun _ => rfl) ?_
                show u_P L xs n d m_X1_join 117 [(0, .int a), (1, .int b), (2, .int c)] [.int c, .int b] S R _
                refine u_ic_le rfl (fun h7 => ?_) (fun h7 => ?_)
                · show u_P L xs n d m_X1_join 124 [(0, .int a), (1, .int b), (2, .int c)] [] S R _
                  refine u_st rfl (fun _ => rfl) ?_
                  show u_P L xs n d m_X1_join 125 [(0, .int a), (1, .int b), (2, .int c)] [.int (Int32.ofInt 0)] S R _
                  exact u_ret rfl rfl ⟨_, rfl, rfl, by rw [f_X1_join, if_neg h1_0, if_neg h1_1, if_neg h1_2, if_neg h1_3, if_neg h1_4, if_neg h1_5, if_pos h1_6, if_pos h7], rfl⟩
                · show u_P L xs n d m_X1_join 120 [(0, .int a), (1, .int b), (2, .int c)] [] S R _
                  refine u_st rfl (fun _ => rfl) ?_
                  refine u_st rfl (fun _ => rfl) ?_
                  show u_P L xs n d m_X1_join 125 [(0, .int a), (1, .int b), (2, .int c)] [.int (Int32.ofInt 1)] S R _
                  exact u_ret rfl rfl ⟨_, rfl, rfl, by rw [f_X1_join, if_neg h1_0, if_neg h1_1, if_neg h1_2, if_neg h1_3, if_neg h1_4, if_neg h1_5, if_pos h1_6, if_neg h7], rfl⟩
              · refine u_jm (t := 126) (sc1 := []) rfl rfl rfl (by simp [g_jmp, g_tg, Op.lookupswitch.offset, z_en h1_0, z_en h1_1, z_en h1_2, z_en h1_3, z_en h1_4, z_en h1_5, z_en h1_6]) ?_
                show u_P L xs n d m_X1_join 126 [(0, .int a), (1, .int b), (2, .int c)] [] S R _
                refine u_st rfl (fun _ => rfl) ?_
                refine u_st rfl (fun _ => rfl) ?_
                show u_P L xs n d m_X1_join 128 [(0, .int a), (1, .int b), (2, .int c)] [.int c, .int b] S R _
                refine u_ic_ne rfl (fun h8 => ?_) (fun h8 => ?_)
                · show u_P L xs n d m_X1_join 135 [(0, .int a), (1, .int b), (2, .int c)] [] S R _
                  refine u_st rfl (fun _ => rfl) ?_
                  show u_P L xs n d m_X1_join 136 [(0, .int a), (1, .int b), (2, .int c)] [.int (Int32.ofInt 0)] S R _
                  exact u_ret rfl rfl ⟨_, rfl, rfl, by rw [f_X1_join, if_neg h1_0, if_neg h1_1, if_neg h1_2, if_neg h1_3, if_neg h1_4, if_neg h1_5, if_neg h1_6, if_pos h8], rfl⟩
                · show u_P L xs n d m_X1_join 131 [(0, .int a), (1, .int b), (2, .int c)] [] S R _
                  refine u_st rfl (fun _ => rfl) ?_
                  refine u_st rfl (fun _ => rfl) ?_
                  show u_P L xs n d m_X1_join 136 [(0, .int a), (1, .int b), (2, .int c)] [.int (Int32.ofInt 1)] S R _
                  exact u_ret rfl rfl ⟨_, rfl, rfl, by rw [f_X1_join, if_neg h1_0, if_neg h1_1, if_neg h1_2, if_neg h1_3, if_neg h1_4, if_neg h1_5, if_neg h1_6, if_neg h8], rfl⟩
noncomputable def g_X5_begin (e : Nat) (m : Int32) (S : v_Sf) : v_Sf := z_s (z_s (z_s (z_s (g_X1_clear e S) 66 3 (Int32.ofInt 0)) 66 4 (Int32.ofInt 0)) 66 5 m) 66 6 (Int32.ofInt 0)
set_option maxRecDepth 4000 in
theorem c_X5_begin (L : Nat) (xs : Nat → Int32) (n d : Nat) {R : v_Rf} {e : Nat} (hE : R 66 1 = some (e + 1)) (he : z_cd e) (m : Int32) (S : v_Sf) : u_P L xs n d m_X5_begin 0 (lv_args 0 [.ref 67, .int m]) [] S R (z_V R (fun S1 => g_X5_begin e m S = S1)) := by
  show u_P L xs n d m_X5_begin 0 [(0, .ref 67), (1, .int m)] [] S R _
  refine u_st rfl (fun _ => rfl) ?_
  show u_P L xs n d m_X5_begin 1 [(0, .ref 67), (1, .int m)] [.ref 67] S R _
  refine u_getv rfl rfl rfl hE ?_
  show u_P L xs n d m_X5_begin 4 [(0, .ref 67), (1, .int m)] [.ref (e + 1)] S R _
  refine u_cv (rest := []) rfl (by decide) mt_X1_clear (z_cd0 he) rfl rfl rfl (Nat.le_of_ble_eq_true rfl) (Nat.le_of_ble_eq_true rfl) (Nat.le_of_ble_eq_true rfl) (fun d' => c_X1_clear L xs n d' e he S R) ?_
  rintro _ _ _ ⟨rfl, rfl, rfl⟩
  refine u_st rfl (fun _ => rfl) ?_
  refine u_st rfl (fun _ => rfl) ?_
  show u_P L xs n d m_X5_begin 9 [(0, .ref 67), (1, .int m)] [.int (Int32.ofInt 0), .ref 67] (g_X1_clear e S) R _
  refine u_put rfl rfl rfl ?_
  refine u_st rfl (fun _ => rfl) ?_
  refine u_st rfl (fun _ => rfl) ?_
  show u_P L xs n d m_X5_begin 14 [(0, .ref 67), (1, .int m)] [.int (Int32.ofInt 0), .ref 67] (z_s (g_X1_clear e S) 66 3 (Int32.ofInt 0)) R _
  refine u_put rfl rfl rfl ?_
  refine u_st rfl (fun _ => rfl) ?_
  refine u_st rfl (fun _ => rfl) ?_
  show u_P L xs n d m_X5_begin 19 [(0, .ref 67), (1, .int m)] [.int m, .ref 67] (z_s (z_s (g_X1_clear e S) 66 3 (Int32.ofInt 0)) 66 4 (Int32.ofInt 0)) R _
  refine u_put rfl rfl rfl ?_
  refine u_st rfl (fun _ => rfl) ?_
  refine u_st rfl (fun _ => rfl) ?_
  show u_P L xs n d m_X5_begin 24 [(0, .ref 67), (1, .int m)] [.int (Int32.ofInt 0), .ref 67] (z_s (z_s (z_s (g_X1_clear e S) 66 3 (Int32.ofInt 0)) 66 4 (Int32.ofInt 0)) 66 5 m) R _
  refine u_put rfl rfl rfl ?_
  show u_P L xs n d m_X5_begin 27 [(0, .ref 67), (1, .int m)] [] (z_s (z_s (z_s (z_s (g_X1_clear e S) 66 3 (Int32.ofInt 0)) 66 4 (Int32.ofInt 0)) 66 5 m) 66 6 (Int32.ofInt 0)) R _
  exact u_ret rfl rfl ⟨rfl, rfl, rfl⟩
noncomputable def f_X5_here  (S : v_Sf) : Int32 := (if (S 66 5) ≤ (S 66 4) then Int32.ofInt (-1) else f_X8_at (S 66 4) S)
set_option maxRecDepth 4000 in
theorem c_X5_here (L : Nat) (xs : Nat → Int32) (n d : Nat)  (S : v_Sf) (R : v_Rf) : u_P L xs n d m_X5_here 0 (lv_args 0 [.ref 67]) [] S R (z_Q R (fun v S1 => f_X5_here  S = v ∧ S = S1)) := by
  show u_P L xs n d m_X5_here 0 [(0, .ref 67)] [] S R _
  refine u_st rfl (fun _ => rfl) ?_
  show u_P L xs n d m_X5_here 1 [(0, .ref 67)] [.ref 67] S R _
  refine u_getE (v := S 66 4) rfl rfl rfl rfl ?_
  refine u_st rfl (fun _ => rfl) ?_
  show u_P L xs n d m_X5_here 5 [(0, .ref 67)] [.ref 67, .int (S 66 4)] S R _
  refine u_getE (v := S 66 5) rfl rfl rfl rfl ?_
  show u_P L xs n d m_X5_here 8 [(0, .ref 67)] [.int (S 66 5), .int (S 66 4)] S R _
  refine u_ic_ge rfl (fun h1 => ?_) (fun h1 => ?_)
  · show u_P L xs n d m_X5_here 25 [(0, .ref 67)] [] S R _
    refine u_st rfl (fun _ => rfl) ?_
    show u_P L xs n d m_X5_here 26 [(0, .ref 67)] [.int (Int32.ofInt (-1))] S R _
    exact u_ret rfl rfl ⟨_, rfl, rfl, by rw [f_X5_here, if_pos h1], rfl⟩
  · show u_P L xs n d m_X5_here 11 [(0, .ref 67)] [] S R _
    refine u_st rfl (fun _ => rfl) ?_
    show u_P L xs n d m_X5_here 12 [(0, .ref 67)] [.ref 67] S R _
    refine u_getr rfl rfl rfl ?_
    refine u_st rfl (fun _ => rfl) ?_
    show u_P L xs n d m_X5_here 16 [(0, .ref 67)] [.ref 67, .ref 46] S R _
    refine u_getE (v := S 66 4) rfl rfl rfl rfl ?_
    show u_P L xs n d m_X5_here 19 [(0, .ref 67)] [.int (S 66 4), .ref 46] S R _
    refine u_cv (rest := []) rfl (by decide) mt_X8_at rfl rfl rfl rfl (Nat.le_of_ble_eq_true rfl) (Nat.le_of_ble_eq_true rfl) (Nat.le_of_ble_eq_true rfl) (fun d' => c_X8_at L xs n d' (S 66 4) S R) ?_
    rintro _ _ _ ⟨_, rfl, rfl, rfl, rfl⟩
    refine u_st rfl (fun _ => rfl) ?_
    show u_P L xs n d m_X5_here 26 [(0, .ref 67)] [.int (f_X8_at (S 66 4) S)] S R _
    exact u_ret rfl rfl ⟨_, rfl, rfl, by rw [f_X5_here, if_neg h1], rfl⟩
noncomputable def g_X5_fail (a : Int32) (b : Int32) (S : v_Sf) : v_Sf := (if ¬ (S 66 6) = 0 then S else z_s (z_s S 66 6 (((Int32.ofInt (-1000)) * a) - b)) 66 5 (S 66 4))
set_option maxRecDepth 4000 in
theorem c_X5_fail (L : Nat) (xs : Nat → Int32) (n d : Nat) (a : Int32) (b : Int32) (S : v_Sf) (R : v_Rf) : u_P L xs n d m_X5_fail 0 (lv_args 0 [.ref 67, .int a, .int b]) [] S R (z_V R (fun S1 => g_X5_fail a b S = S1)) := by
  show u_P L xs n d m_X5_fail 0 [(0, .ref 67), (1, .int a), (2, .int b)] [] S R _
  refine u_st rfl (fun _ => rfl) ?_
  show u_P L xs n d m_X5_fail 1 [(0, .ref 67), (1, .int a), (2, .int b)] [.ref 67] S R _
  refine u_getE (v := S 66 6) rfl rfl rfl rfl ?_
  show u_P L xs n d m_X5_fail 4 [(0, .ref 67), (1, .int a), (2, .int b)] [.int (S 66 6)] S R _
  refine u_if_ne rfl (fun h1 => ?_) (fun h1 => ?_)
  · show u_P L xs n d m_X5_fail 26 [(0, .ref 67), (1, .int a), (2, .int b)] [] S R _
    exact u_ret rfl rfl ⟨rfl, rfl, by rw [g_X5_fail, if_pos h1]⟩
  · show u_P L xs n d m_X5_fail 7 [(0, .ref 67), (1, .int a), (2, .int b)] [] S R _
    refine u_st rfl (fun _ => rfl) ?_
    refine u_st rfl (fun _ => rfl) ?_
    refine u_st rfl (fun _ => rfl) ?_
    refine u_st rfl (fun _ => rfl) ?_
    refine u_st rfl (fun _ => rfl) ?_
    refine u_st rfl (fun _ => rfl) ?_
    show u_P L xs n d m_X5_fail 15 [(0, .ref 67), (1, .int a), (2, .int b)] [.int (((Int32.ofInt (-1000)) * a) - b), .ref 67] S R _
    refine u_put rfl rfl rfl ?_
    refine u_st rfl (fun _ => rfl) ?_
    refine u_st rfl (fun _ => rfl) ?_
    show u_P L xs n d m_X5_fail 20 [(0, .ref 67), (1, .int a), (2, .int b)] [.ref 67, .ref 67] (z_s S 66 6 (((Int32.ofInt (-1000)) * a) - b)) R _
    refine u_getE (v := S 66 4) rfl rfl rfl (z_sn (fun h => absurd h.2 (by decide))) ?_
    show u_P L xs n d m_X5_fail 23 [(0, .ref 67), (1, .int a), (2, .int b)] [.int (S 66 4), .ref 67] (z_s S 66 6 (((Int32.ofInt (-1000)) * a) - b)) R _
    refine u_put rfl rfl rfl ?_
    show u_P L xs n d m_X5_fail 26 [(0, .ref 67), (1, .int a), (2, .int b)] [] (z_s (z_s S 66 6 (((Int32.ofInt (-1000)) * a) - b)) 66 5 (S 66 4)) R _
    exact u_ret rfl rfl ⟨rfl, rfl, by rw [g_X5_fail, if_neg h1]⟩
noncomputable def g_X5_expect (a : Int32) (S : v_Sf) : v_Sf := (if ¬ (f_X5_here S) = a then g_X5_fail (Int32.ofInt 1) (S 66 4) S else z_s S 66 4 ((S 66 4) + (Int32.ofInt 1)))
set_option maxRecDepth 4000 in
theorem c_X5_expect (L : Nat) (xs : Nat → Int32) (n d : Nat) (a : Int32) (S : v_Sf) (R : v_Rf) : u_P L xs n d m_X5_expect 0 (lv_args 0 [.ref 67, .int a]) [] S R (z_V R (fun S1 => g_X5_expect a S = S1)) := by
  show u_P L xs n d m_X5_expect 0 [(0, .ref 67), (1, .int a)] [] S R _
  refine u_st rfl (fun _ => rfl) ?_
  show u_P L xs n d m_X5_expect 1 [(0, .ref 67), (1, .int a)] [.ref 67] S R _
  refine u_cv (rest := []) rfl (by decide) mt_X5_here rfl rfl rfl rfl (Nat.le_of_ble_eq_true rfl) (Nat.le_of_ble_eq_true rfl) (Nat.le_of_ble_eq_true rfl) (fun d' => c_X5_here L xs n d' S R) ?_
  rintro _ _ _ ⟨_, rfl, rfl, rfl, rfl⟩
  refine u_st rfl (fun _ => rfl) ?_
  show u_P L xs n d m_X5_expect 5 [(0, .ref 67), (1, .int a)] [.int a, .int (f_X5_here S)] S R _
  refine u_ic_ne rfl (fun h1 => ?_) (fun h1 => ?_)
  · show u_P L xs n d m_X5_expect 21 [(0, .ref 67), (1, .int a)] [] S R _
    refine u_st rfl (fun _ => rfl) ?_
    refine u_st rfl (fun _ => rfl) ?_
    refine u_st rfl (fun _ => rfl) ?_
    show u_P L xs n d m_X5_expect 24 [(0, .ref 67), (1, .int a)] [.ref 67, .int (Int32.ofInt 1), .ref 67] S R _
    refine u_getE (v := S 66 4) rfl rfl rfl rfl ?_
    show u_P L xs n d m_X5_expect 27 [(0, .ref 67), (1, .int a)] [.int (S 66 4), .int (Int32.ofInt 1), .ref 67] S R _
    refine u_cv (rest := []) rfl (by decide) mt_X5_fail rfl rfl rfl rfl (Nat.le_of_ble_eq_true rfl) (Nat.le_of_ble_eq_true rfl) (Nat.le_of_ble_eq_true rfl) (fun d' => c_X5_fail L xs n d' (Int32.ofInt 1) (S 66 4) S R) ?_
    rintro _ _ _ ⟨rfl, rfl, rfl⟩
    show u_P L xs n d m_X5_expect 30 [(0, .ref 67), (1, .int a)] [] (g_X5_fail (Int32.ofInt 1) (S 66 4) S) R _
    exact u_ret rfl rfl ⟨rfl, rfl, by rw [g_X5_expect, if_pos h1]⟩
  · show u_P L xs n d m_X5_expect 8 [(0, .ref 67), (1, .int a)] [] S R _
    refine u_st rfl (fun _ => rfl) ?_
    refine u_st rfl (fun _ => rfl) ?_
    show u_P L xs n d m_X5_expect 10 [(0, .ref 67), (1, .int a)] [.ref 67, .ref 67] S R _
    refine u_getE (v := S 66 4) rfl rfl rfl rfl ?_
    refine u_st rfl (fun _ => rfl) ?_
    refine u_st rfl (fun _ => rfl) ?_
    show u_P L xs n d m_X5_expect 15 [(0, .ref 67), (1, .int a)] [.int ((S 66 4) + (Int32.ofInt 1)), .ref 67] S R _
    refine u_put rfl rfl rfl ?_
    refine u_st rfl (fun _ => rfl) ?_
    show u_P L xs n d m_X5_expect 30 [(0, .ref 67), (1, .int a)] [] (z_s S 66 4 ((S 66 4) + (Int32.ofInt 1))) R _
    exact u_ret rfl rfl ⟨rfl, rfl, by rw [g_X5_expect, if_neg h1]⟩
noncomputable abbrev m_X5_opens : g_M := (g_cn 5, yX5_opens, cX5_opens, 2, (some .boolean), g_look2 ttX5_opens)
set_option maxRecDepth 20000 in
theorem mt_X5_opens : g_mt 66 = some m_X5_opens := rfl
noncomputable def f_X5_opens (a : Int32) (S : v_Sf) : Int32 := (if a < (Int32.ofInt 6) then Int32.ofInt 1 else Int32.ofInt 0)
noncomputable def g_X5_opens (a : Int32) (S : v_Sf) : v_Sf := (if a < (Int32.ofInt 6) then z_s S 66 4 ((S 66 4) + (Int32.ofInt 1)) else g_X5_fail (Int32.ofInt 5) (S 66 4) S)
set_option maxRecDepth 4000 in
theorem c_X5_opens (L : Nat) (xs : Nat → Int32) (n d : Nat) (a : Int32) (S : v_Sf) (R : v_Rf) : u_P L xs n d m_X5_opens 0 (lv_args 0 [.ref 67, .int a]) [] S R (z_Q R (fun v S1 => f_X5_opens a S = v ∧ g_X5_opens a S = S1)) := by
  show u_P L xs n d m_X5_opens 0 [(0, .ref 67), (1, .int a)] [] S R _
  refine u_st rfl (fun _ => rfl) ?_
  refine u_st rfl (fun _ => rfl) ?_
  show u_P L xs n d m_X5_opens 3 [(0, .ref 67), (1, .int a)] [.int (Int32.ofInt 6), .int a] S R _
  refine u_ic_lt rfl (fun h1 => ?_) (fun h1 => ?_)
  · show u_P L xs n d m_X5_opens 17 [(0, .ref 67), (1, .int a)] [] S R _
    refine u_st rfl (fun _ => rfl) ?_
    refine u_st rfl (fun _ => rfl) ?_
    show u_P L xs n d m_X5_opens 19 [(0, .ref 67), (1, .int a)] [.ref 67, .ref 67] S R _
    refine u_getE (v := S 66 4) rfl rfl rfl rfl ?_
    refine u_st rfl (fun _ => rfl) ?_
    refine u_st rfl (fun _ => rfl) ?_
    show u_P L xs n d m_X5_opens 24 [(0, .ref 67), (1, .int a)] [.int ((S 66 4) + (Int32.ofInt 1)), .ref 67] S R _
    refine u_put rfl rfl rfl ?_
    refine u_st rfl (fun _ => rfl) ?_
    show u_P L xs n d m_X5_opens 28 [(0, .ref 67), (1, .int a)] [.int (Int32.ofInt 1)] (z_s S 66 4 ((S 66 4) + (Int32.ofInt 1))) R _
    exact u_retb rfl rfl ⟨_, rfl, rfl, by rw [f_X5_opens, if_pos h1], by rw [g_X5_opens, if_pos h1]⟩
  · show u_P L xs n d m_X5_opens 6 [(0, .ref 67), (1, .int a)] [] S R _
    refine u_st rfl (fun _ => rfl) ?_
    refine u_st rfl (fun _ => rfl) ?_
    refine u_st rfl (fun _ => rfl) ?_
    show u_P L xs n d m_X5_opens 9 [(0, .ref 67), (1, .int a)] [.ref 67, .int (Int32.ofInt 5), .ref 67] S R _
    refine u_getE (v := S 66 4) rfl rfl rfl rfl ?_
    show u_P L xs n d m_X5_opens 12 [(0, .ref 67), (1, .int a)] [.int (S 66 4), .int (Int32.ofInt 5), .ref 67] S R _
    refine u_cv (rest := []) rfl (by decide) mt_X5_fail rfl rfl rfl rfl (Nat.le_of_ble_eq_true rfl) (Nat.le_of_ble_eq_true rfl) (Nat.le_of_ble_eq_true rfl) (fun d' => c_X5_fail L xs n d' (Int32.ofInt 5) (S 66 4) S R) ?_
    rintro _ _ _ ⟨rfl, rfl, rfl⟩
    refine u_st rfl (fun _ => rfl) ?_
    show u_P L xs n d m_X5_opens 16 [(0, .ref 67), (1, .int a)] [.int (Int32.ofInt 0)] (g_X5_fail (Int32.ofInt 5) (S 66 4) S) R _
    exact u_retb rfl rfl ⟨_, rfl, rfl, by rw [f_X5_opens, if_neg h1], by rw [g_X5_opens, if_neg h1]⟩
noncomputable def g_X5_writeMonth (a : Int32) (S : v_Sf) : v_Sf := (if (Int32.ofNat 49) ≤ (S 66 3) then z_s S 66 4 ((S 66 4) + (Int32.ofInt 1)) else z_s (z_s (z_s S 66 4 ((S 66 4) + (Int32.ofInt 1))) 74 ((S 66 3).toInt.toNat) a) 66 3 ((S 66 3) + (Int32.ofInt 1)))
set_option maxRecDepth 4000 in
theorem c_X5_writeMonth (L : Nat) (xs : Nat → Int32) (n d : Nat) (a : Int32) (S : v_Sf) (R : v_Rf) : u_P L xs n d m_X5_writeMonth 0 (lv_args 0 [.ref 67, .int a]) [] S R (z_V R (fun S1 => g_X5_writeMonth a S = S1)) := by
  show u_P L xs n d m_X5_writeMonth 0 [(0, .ref 67), (1, .int a)] [] S R _
  refine u_st rfl (fun _ => rfl) ?_
  refine u_st rfl (fun _ => rfl) ?_
  show u_P L xs n d m_X5_writeMonth 2 [(0, .ref 67), (1, .int a)] [.ref 67, .ref 67] S R _
  refine u_getE (v := S 66 4) rfl rfl rfl rfl ?_
  refine u_st rfl (fun _ => rfl) ?_
  refine u_st rfl (fun _ => rfl) ?_
  show u_P L xs n d m_X5_writeMonth 7 [(0, .ref 67), (1, .int a)] [.int ((S 66 4) + (Int32.ofInt 1)), .ref 67] S R _
  refine u_put rfl rfl rfl ?_
  refine u_st rfl (fun _ => rfl) ?_
  show u_P L xs n d m_X5_writeMonth 11 [(0, .ref 67), (1, .int a)] [.ref 67] (z_s S 66 4 ((S 66 4) + (Int32.ofInt 1))) R _
  refine u_getE (v := S 66 3) rfl rfl rfl (z_sn (fun h => absurd h.2 (by decide))) ?_
  refine u_st rfl (fun _ => rfl) ?_
  show u_P L xs n d m_X5_writeMonth 15 [(0, .ref 67), (1, .int a)] [.ref 67, .int (S 66 3)] (z_s S 66 4 ((S 66 4) + (Int32.ofInt 1))) R _
  refine u_getr rfl rfl rfl ?_
  show u_P L xs n d m_X5_writeMonth 18 [(0, .ref 67), (1, .int a)] [.ref 75, .int (S 66 3)] (z_s S 66 4 ((S 66 4) + (Int32.ofInt 1))) R _
  refine u_al rfl rfl rfl ?_
  show u_P L xs n d m_X5_writeMonth 19 [(0, .ref 67), (1, .int a)] [.int (Int32.ofNat 49), .int (S 66 3)] (z_s S 66 4 ((S 66 4) + (Int32.ofInt 1))) R _
  refine u_ic_ge rfl (fun h1 => ?_) (fun h1 => ?_)
  · show u_P L xs n d m_X5_writeMonth 42 [(0, .ref 67), (1, .int a)] [] (z_s S 66 4 ((S 66 4) + (Int32.ofInt 1))) R _
    exact u_ret rfl rfl ⟨rfl, rfl, by rw [g_X5_writeMonth, if_pos h1]⟩
  · show u_P L xs n d m_X5_writeMonth 22 [(0, .ref 67), (1, .int a)] [] (z_s S 66 4 ((S 66 4) + (Int32.ofInt 1))) R _
    refine u_st rfl (fun _ => rfl) ?_
    show u_P L xs n d m_X5_writeMonth 23 [(0, .ref 67), (1, .int a)] [.ref 67] (z_s S 66 4 ((S 66 4) + (Int32.ofInt 1))) R _
    refine u_getr rfl rfl rfl ?_
    refine u_st rfl (fun _ => rfl) ?_
    show u_P L xs n d m_X5_writeMonth 27 [(0, .ref 67), (1, .int a)] [.ref 67, .ref 75] (z_s S 66 4 ((S 66 4) + (Int32.ofInt 1))) R _
    refine u_getE (v := S 66 3) rfl rfl rfl (z_sn (fun h => absurd h.2 (by decide))) ?_
    refine u_st rfl (fun _ => rfl) ?_
    show u_P L xs n d m_X5_writeMonth 31 [(0, .ref 67), (1, .int a)] [.int a, .int (S 66 3), .ref 75] (z_s S 66 4 ((S 66 4) + (Int32.ofInt 1))) R _
    refine u_iast rfl rfl (fun b21 b22 => ?_)
    refine u_st rfl (fun _ => rfl) ?_
    refine u_st rfl (fun _ => rfl) ?_
    show u_P L xs n d m_X5_writeMonth 34 [(0, .ref 67), (1, .int a)] [.ref 67, .ref 67] (z_s (z_s S 66 4 ((S 66 4) + (Int32.ofInt 1))) 74 ((S 66 3).toInt.toNat) a) R _
    refine u_getE (v := S 66 3) rfl rfl rfl ((z_sn (fun h => absurd h.1 (by decide))).trans (z_sn (fun h => absurd h.2 (by decide)))) ?_
    refine u_st rfl (fun _ => rfl) ?_
    refine u_st rfl (fun _ => rfl) ?_
    show u_P L xs n d m_X5_writeMonth 39 [(0, .ref 67), (1, .int a)] [.int ((S 66 3) + (Int32.ofInt 1)), .ref 67] (z_s (z_s S 66 4 ((S 66 4) + (Int32.ofInt 1))) 74 ((S 66 3).toInt.toNat) a) R _
    refine u_put rfl rfl rfl ?_
    show u_P L xs n d m_X5_writeMonth 42 [(0, .ref 67), (1, .int a)] [] (z_s (z_s (z_s S 66 4 ((S 66 4) + (Int32.ofInt 1))) 74 ((S 66 3).toInt.toNat) a) 66 3 ((S 66 3) + (Int32.ofInt 1))) R _
    exact u_ret rfl rfl ⟨rfl, rfl, by rw [g_X5_writeMonth, if_neg h1]⟩
noncomputable abbrev m_X7_copy : g_M := (g_cn 7, yX7_copy, cX7_copy, 2, none, g_look2 ttX7_copy)
set_option maxRecDepth 20000 in
theorem mt_X7_copy : g_mt 93 = some m_X7_copy := rfl
noncomputable def g_X7_copy (s : Nat) (t : Nat) (S : v_Sf) : v_Sf := z_s (z_s (z_s (z_s (z_cp (z_cp (z_cp (z_s (z_cp (z_cp (z_cp (z_cp (z_cp (z_cp (z_s S s 0 (S t 0)) (t + 1) (s + 1) (Int32.ofInt 12)) (t + 2) (s + 2) (Int32.ofInt 12)) (t + 3) (s + 3) (Int32.ofInt 12)) (t + 4) (s + 4) (Int32.ofInt 12)) (t + 5) (s + 5) (Int32.ofInt 12)) (t + 6) (s + 6) (Int32.ofInt 12)) s 7 ((z_cp (z_cp (z_cp (z_cp (z_cp (z_cp (z_s S s 0 (S t 0)) (t + 1) (s + 1) (Int32.ofInt 12)) (t + 2) (s + 2) (Int32.ofInt 12)) (t + 3) (s + 3) (Int32.ofInt 12)) (t + 4) (s + 4) (Int32.ofInt 12)) (t + 5) (s + 5) (Int32.ofInt 12)) (t + 6) (s + 6) (Int32.ofInt 12)) t 7)) (t + 7) (s + 7) (Int32.ofInt 5)) (t + 8) (s + 8) (Int32.ofInt 5)) (t + 9) (s + 9) (Int32.ofInt 6)) s 11 ((z_cp (z_cp (z_cp (z_s (z_cp (z_cp (z_cp (z_cp (z_cp (z_cp (z_s S s 0 (S t 0)) (t + 1) (s + 1) (Int32.ofInt 12)) (t + 2) (s + 2) (Int32.ofInt 12)) (t + 3) (s + 3) (Int32.ofInt 12)) (t + 4) (s + 4) (Int32.ofInt 12)) (t + 5) (s + 5) (Int32.ofInt 12)) (t + 6) (s + 6) (Int32.ofInt 12)) s 7 ((z_cp (z_cp (z_cp (z_cp (z_cp (z_cp (z_s S s 0 (S t 0)) (t + 1) (s + 1) (Int32.ofInt 12)) (t + 2) (s + 2) (Int32.ofInt 12)) (t + 3) (s + 3) (Int32.ofInt 12)) (t + 4) (s + 4) (Int32.ofInt 12)) (t + 5) (s + 5) (Int32.ofInt 12)) (t + 6) (s + 6) (Int32.ofInt 12)) t 7)) (t + 7) (s + 7) (Int32.ofInt 5)) (t + 8) (s + 8) (Int32.ofInt 5)) (t + 9) (s + 9) (Int32.ofInt 6)) t 11)) s 12 ((z_s (z_cp (z_cp (z_cp (z_s (z_cp (z_cp (z_cp (z_cp (z_cp (z_cp (z_s S s 0 (S t 0)) (t + 1) (s + 1) (Int32.ofInt 12)) (t + 2) (s + 2) (Int32.ofInt 12)) (t + 3) (s + 3) (Int32.ofInt 12)) (t + 4) (s + 4) (Int32.ofInt 12)) (t + 5) (s + 5) (Int32.ofInt 12)) (t + 6) (s + 6) (Int32.ofInt 12)) s 7 ((z_cp (z_cp (z_cp (z_cp (z_cp (z_cp (z_s S s 0 (S t 0)) (t + 1) (s + 1) (Int32.ofInt 12)) (t + 2) (s + 2) (Int32.ofInt 12)) (t + 3) (s + 3) (Int32.ofInt 12)) (t + 4) (s + 4) (Int32.ofInt 12)) (t + 5) (s + 5) (Int32.ofInt 12)) (t + 6) (s + 6) (Int32.ofInt 12)) t 7)) (t + 7) (s + 7) (Int32.ofInt 5)) (t + 8) (s + 8) (Int32.ofInt 5)) (t + 9) (s + 9) (Int32.ofInt 6)) s 11 ((z_cp (z_cp (z_cp (z_s (z_cp (z_cp (z_cp (z_cp (z_cp (z_cp (z_s S s 0 (S t 0)) (t + 1) (s + 1) (Int32.ofInt 12)) (t + 2) (s + 2) (Int32.ofInt 12)) (t + 3) (s + 3) (Int32.ofInt 12)) (t + 4) (s + 4) (Int32.ofInt 12)) (t + 5) (s + 5) (Int32.ofInt 12)) (t + 6) (s + 6) (Int32.ofInt 12)) s 7 ((z_cp (z_cp (z_cp (z_cp (z_cp (z_cp (z_s S s 0 (S t 0)) (t + 1) (s + 1) (Int32.ofInt 12)) (t + 2) (s + 2) (Int32.ofInt 12)) (t + 3) (s + 3) (Int32.ofInt 12)) (t + 4) (s + 4) (Int32.ofInt 12)) (t + 5) (s + 5) (Int32.ofInt 12)) (t + 6) (s + 6) (Int32.ofInt 12)) t 7)) (t + 7) (s + 7) (Int32.ofInt 5)) (t + 8) (s + 8) (Int32.ofInt 5)) (t + 9) (s + 9) (Int32.ofInt 6)) t 11)) t 12)) s 13 ((z_s (z_s (z_cp (z_cp (z_cp (z_s (z_cp (z_cp (z_cp (z_cp (z_cp (z_cp (z_s S s 0 (S t 0)) (t + 1) (s + 1) (Int32.ofInt 12)) (t + 2) (s + 2) (Int32.ofInt 12)) (t + 3) (s + 3) (Int32.ofInt 12)) (t + 4) (s + 4) (Int32.ofInt 12)) (t + 5) (s + 5) (Int32.ofInt 12)) (t + 6) (s + 6) (Int32.ofInt 12)) s 7 ((z_cp (z_cp (z_cp (z_cp (z_cp (z_cp (z_s S s 0 (S t 0)) (t + 1) (s + 1) (Int32.ofInt 12)) (t + 2) (s + 2) (Int32.ofInt 12)) (t + 3) (s + 3) (Int32.ofInt 12)) (t + 4) (s + 4) (Int32.ofInt 12)) (t + 5) (s + 5) (Int32.ofInt 12)) (t + 6) (s + 6) (Int32.ofInt 12)) t 7)) (t + 7) (s + 7) (Int32.ofInt 5)) (t + 8) (s + 8) (Int32.ofInt 5)) (t + 9) (s + 9) (Int32.ofInt 6)) s 11 ((z_cp (z_cp (z_cp (z_s (z_cp (z_cp (z_cp (z_cp (z_cp (z_cp (z_s S s 0 (S t 0)) (t + 1) (s + 1) (Int32.ofInt 12)) (t + 2) (s + 2) (Int32.ofInt 12)) (t + 3) (s + 3) (Int32.ofInt 12)) (t + 4) (s + 4) (Int32.ofInt 12)) (t + 5) (s + 5) (Int32.ofInt 12)) (t + 6) (s + 6) (Int32.ofInt 12)) s 7 ((z_cp (z_cp (z_cp (z_cp (z_cp (z_cp (z_s S s 0 (S t 0)) (t + 1) (s + 1) (Int32.ofInt 12)) (t + 2) (s + 2) (Int32.ofInt 12)) (t + 3) (s + 3) (Int32.ofInt 12)) (t + 4) (s + 4) (Int32.ofInt 12)) (t + 5) (s + 5) (Int32.ofInt 12)) (t + 6) (s + 6) (Int32.ofInt 12)) t 7)) (t + 7) (s + 7) (Int32.ofInt 5)) (t + 8) (s + 8) (Int32.ofInt 5)) (t + 9) (s + 9) (Int32.ofInt 6)) t 11)) s 12 ((z_s (z_cp (z_cp (z_cp (z_s (z_cp (z_cp (z_cp (z_cp (z_cp (z_cp (z_s S s 0 (S t 0)) (t + 1) (s + 1) (Int32.ofInt 12)) (t + 2) (s + 2) (Int32.ofInt 12)) (t + 3) (s + 3) (Int32.ofInt 12)) (t + 4) (s + 4) (Int32.ofInt 12)) (t + 5) (s + 5) (Int32.ofInt 12)) (t + 6) (s + 6) (Int32.ofInt 12)) s 7 ((z_cp (z_cp (z_cp (z_cp (z_cp (z_cp (z_s S s 0 (S t 0)) (t + 1) (s + 1) (Int32.ofInt 12)) (t + 2) (s + 2) (Int32.ofInt 12)) (t + 3) (s + 3) (Int32.ofInt 12)) (t + 4) (s + 4) (Int32.ofInt 12)) (t + 5) (s + 5) (Int32.ofInt 12)) (t + 6) (s + 6) (Int32.ofInt 12)) t 7)) (t + 7) (s + 7) (Int32.ofInt 5)) (t + 8) (s + 8) (Int32.ofInt 5)) (t + 9) (s + 9) (Int32.ofInt 6)) s 11 ((z_cp (z_cp (z_cp (z_s (z_cp (z_cp (z_cp (z_cp (z_cp (z_cp (z_s S s 0 (S t 0)) (t + 1) (s + 1) (Int32.ofInt 12)) (t + 2) (s + 2) (Int32.ofInt 12)) (t + 3) (s + 3) (Int32.ofInt 12)) (t + 4) (s + 4) (Int32.ofInt 12)) (t + 5) (s + 5) (Int32.ofInt 12)) (t + 6) (s + 6) (Int32.ofInt 12)) s 7 ((z_cp (z_cp (z_cp (z_cp (z_cp (z_cp (z_s S s 0 (S t 0)) (t + 1) (s + 1) (Int32.ofInt 12)) (t + 2) (s + 2) (Int32.ofInt 12)) (t + 3) (s + 3) (Int32.ofInt 12)) (t + 4) (s + 4) (Int32.ofInt 12)) (t + 5) (s + 5) (Int32.ofInt 12)) (t + 6) (s + 6) (Int32.ofInt 12)) t 7)) (t + 7) (s + 7) (Int32.ofInt 5)) (t + 8) (s + 8) (Int32.ofInt 5)) (t + 9) (s + 9) (Int32.ofInt 6)) t 11)) t 12)) t 13)) s 14 ((z_s (z_s (z_s (z_cp (z_cp (z_cp (z_s (z_cp (z_cp (z_cp (z_cp (z_cp (z_cp (z_s S s 0 (S t 0)) (t + 1) (s + 1) (Int32.ofInt 12)) (t + 2) (s + 2) (Int32.ofInt 12)) (t + 3) (s + 3) (Int32.ofInt 12)) (t + 4) (s + 4) (Int32.ofInt 12)) (t + 5) (s + 5) (Int32.ofInt 12)) (t + 6) (s + 6) (Int32.ofInt 12)) s 7 ((z_cp (z_cp (z_cp (z_cp (z_cp (z_cp (z_s S s 0 (S t 0)) (t + 1) (s + 1) (Int32.ofInt 12)) (t + 2) (s + 2) (Int32.ofInt 12)) (t + 3) (s + 3) (Int32.ofInt 12)) (t + 4) (s + 4) (Int32.ofInt 12)) (t + 5) (s + 5) (Int32.ofInt 12)) (t + 6) (s + 6) (Int32.ofInt 12)) t 7)) (t + 7) (s + 7) (Int32.ofInt 5)) (t + 8) (s + 8) (Int32.ofInt 5)) (t + 9) (s + 9) (Int32.ofInt 6)) s 11 ((z_cp (z_cp (z_cp (z_s (z_cp (z_cp (z_cp (z_cp (z_cp (z_cp (z_s S s 0 (S t 0)) (t + 1) (s + 1) (Int32.ofInt 12)) (t + 2) (s + 2) (Int32.ofInt 12)) (t + 3) (s + 3) (Int32.ofInt 12)) (t + 4) (s + 4) (Int32.ofInt 12)) (t + 5) (s + 5) (Int32.ofInt 12)) (t + 6) (s + 6) (Int32.ofInt 12)) s 7 ((z_cp (z_cp (z_cp (z_cp (z_cp (z_cp (z_s S s 0 (S t 0)) (t + 1) (s + 1) (Int32.ofInt 12)) (t + 2) (s + 2) (Int32.ofInt 12)) (t + 3) (s + 3) (Int32.ofInt 12)) (t + 4) (s + 4) (Int32.ofInt 12)) (t + 5) (s + 5) (Int32.ofInt 12)) (t + 6) (s + 6) (Int32.ofInt 12)) t 7)) (t + 7) (s + 7) (Int32.ofInt 5)) (t + 8) (s + 8) (Int32.ofInt 5)) (t + 9) (s + 9) (Int32.ofInt 6)) t 11)) s 12 ((z_s (z_cp (z_cp (z_cp (z_s (z_cp (z_cp (z_cp (z_cp (z_cp (z_cp (z_s S s 0 (S t 0)) (t + 1) (s + 1) (Int32.ofInt 12)) (t + 2) (s + 2) (Int32.ofInt 12)) (t + 3) (s + 3) (Int32.ofInt 12)) (t + 4) (s + 4) (Int32.ofInt 12)) (t + 5) (s + 5) (Int32.ofInt 12)) (t + 6) (s + 6) (Int32.ofInt 12)) s 7 ((z_cp (z_cp (z_cp (z_cp (z_cp (z_cp (z_s S s 0 (S t 0)) (t + 1) (s + 1) (Int32.ofInt 12)) (t + 2) (s + 2) (Int32.ofInt 12)) (t + 3) (s + 3) (Int32.ofInt 12)) (t + 4) (s + 4) (Int32.ofInt 12)) (t + 5) (s + 5) (Int32.ofInt 12)) (t + 6) (s + 6) (Int32.ofInt 12)) t 7)) (t + 7) (s + 7) (Int32.ofInt 5)) (t + 8) (s + 8) (Int32.ofInt 5)) (t + 9) (s + 9) (Int32.ofInt 6)) s 11 ((z_cp (z_cp (z_cp (z_s (z_cp (z_cp (z_cp (z_cp (z_cp (z_cp (z_s S s 0 (S t 0)) (t + 1) (s + 1) (Int32.ofInt 12)) (t + 2) (s + 2) (Int32.ofInt 12)) (t + 3) (s + 3) (Int32.ofInt 12)) (t + 4) (s + 4) (Int32.ofInt 12)) (t + 5) (s + 5) (Int32.ofInt 12)) (t + 6) (s + 6) (Int32.ofInt 12)) s 7 ((z_cp (z_cp (z_cp (z_cp (z_cp (z_cp (z_s S s 0 (S t 0)) (t + 1) (s + 1) (Int32.ofInt 12)) (t + 2) (s + 2) (Int32.ofInt 12)) (t + 3) (s + 3) (Int32.ofInt 12)) (t + 4) (s + 4) (Int32.ofInt 12)) (t + 5) (s + 5) (Int32.ofInt 12)) (t + 6) (s + 6) (Int32.ofInt 12)) t 7)) (t + 7) (s + 7) (Int32.ofInt 5)) (t + 8) (s + 8) (Int32.ofInt 5)) (t + 9) (s + 9) (Int32.ofInt 6)) t 11)) t 12)) s 13 ((z_s (z_s (z_cp (z_cp (z_cp (z_s (z_cp (z_cp (z_cp (z_cp (z_cp (z_cp (z_s S s 0 (S t 0)) (t + 1) (s + 1) (Int32.ofInt 12)) (t + 2) (s + 2) (Int32.ofInt 12)) (t + 3) (s + 3) (Int32.ofInt 12)) (t + 4) (s + 4) (Int32.ofInt 12)) (t + 5) (s + 5) (Int32.ofInt 12)) (t + 6) (s + 6) (Int32.ofInt 12)) s 7 ((z_cp (z_cp (z_cp (z_cp (z_cp (z_cp (z_s S s 0 (S t 0)) (t + 1) (s + 1) (Int32.ofInt 12)) (t + 2) (s + 2) (Int32.ofInt 12)) (t + 3) (s + 3) (Int32.ofInt 12)) (t + 4) (s + 4) (Int32.ofInt 12)) (t + 5) (s + 5) (Int32.ofInt 12)) (t + 6) (s + 6) (Int32.ofInt 12)) t 7)) (t + 7) (s + 7) (Int32.ofInt 5)) (t + 8) (s + 8) (Int32.ofInt 5)) (t + 9) (s + 9) (Int32.ofInt 6)) s 11 ((z_cp (z_cp (z_cp (z_s (z_cp (z_cp (z_cp (z_cp (z_cp (z_cp (z_s S s 0 (S t 0)) (t + 1) (s + 1) (Int32.ofInt 12)) (t + 2) (s + 2) (Int32.ofInt 12)) (t + 3) (s + 3) (Int32.ofInt 12)) (t + 4) (s + 4) (Int32.ofInt 12)) (t + 5) (s + 5) (Int32.ofInt 12)) (t + 6) (s + 6) (Int32.ofInt 12)) s 7 ((z_cp (z_cp (z_cp (z_cp (z_cp (z_cp (z_s S s 0 (S t 0)) (t + 1) (s + 1) (Int32.ofInt 12)) (t + 2) (s + 2) (Int32.ofInt 12)) (t + 3) (s + 3) (Int32.ofInt 12)) (t + 4) (s + 4) (Int32.ofInt 12)) (t + 5) (s + 5) (Int32.ofInt 12)) (t + 6) (s + 6) (Int32.ofInt 12)) t 7)) (t + 7) (s + 7) (Int32.ofInt 5)) (t + 8) (s + 8) (Int32.ofInt 5)) (t + 9) (s + 9) (Int32.ofInt 6)) t 11)) s 12 ((z_s (z_cp (z_cp (z_cp (z_s (z_cp (z_cp (z_cp (z_cp (z_cp (z_cp (z_s S s 0 (S t 0)) (t + 1) (s + 1) (Int32.ofInt 12)) (t + 2) (s + 2) (Int32.ofInt 12)) (t + 3) (s + 3) (Int32.ofInt 12)) (t + 4) (s + 4) (Int32.ofInt 12)) (t + 5) (s + 5) (Int32.ofInt 12)) (t + 6) (s + 6) (Int32.ofInt 12)) s 7 ((z_cp (z_cp (z_cp (z_cp (z_cp (z_cp (z_s S s 0 (S t 0)) (t + 1) (s + 1) (Int32.ofInt 12)) (t + 2) (s + 2) (Int32.ofInt 12)) (t + 3) (s + 3) (Int32.ofInt 12)) (t + 4) (s + 4) (Int32.ofInt 12)) (t + 5) (s + 5) (Int32.ofInt 12)) (t + 6) (s + 6) (Int32.ofInt 12)) t 7)) (t + 7) (s + 7) (Int32.ofInt 5)) (t + 8) (s + 8) (Int32.ofInt 5)) (t + 9) (s + 9) (Int32.ofInt 6)) s 11 ((z_cp (z_cp (z_cp (z_s (z_cp (z_cp (z_cp (z_cp (z_cp (z_cp (z_s S s 0 (S t 0)) (t + 1) (s + 1) (Int32.ofInt 12)) (t + 2) (s + 2) (Int32.ofInt 12)) (t + 3) (s + 3) (Int32.ofInt 12)) (t + 4) (s + 4) (Int32.ofInt 12)) (t + 5) (s + 5) (Int32.ofInt 12)) (t + 6) (s + 6) (Int32.ofInt 12)) s 7 ((z_cp (z_cp (z_cp (z_cp (z_cp (z_cp (z_s S s 0 (S t 0)) (t + 1) (s + 1) (Int32.ofInt 12)) (t + 2) (s + 2) (Int32.ofInt 12)) (t + 3) (s + 3) (Int32.ofInt 12)) (t + 4) (s + 4) (Int32.ofInt 12)) (t + 5) (s + 5) (Int32.ofInt 12)) (t + 6) (s + 6) (Int32.ofInt 12)) t 7)) (t + 7) (s + 7) (Int32.ofInt 5)) (t + 8) (s + 8) (Int32.ofInt 5)) (t + 9) (s + 9) (Int32.ofInt 6)) t 11)) t 12)) t 13)) t 14)
set_option maxRecDepth 4000 in
theorem c_X7_copy (L : Nat) (xs : Nat → Int32) (n d : Nat) (s : Nat) (hs : z_st s) (t : Nat) (ht : z_st t) (S : v_Sf) (R : v_Rf) : u_P L xs n d m_X7_copy 0 (lv_args 0 [.ref (s + 1), .ref (t + 1)]) [] S R (z_V R (fun S1 => g_X7_copy s t S = S1)) := by
  show u_P L xs n d m_X7_copy 0 [(0, .ref (s + 1)), (1, .ref (t + 1))] [] S R _
  refine u_st rfl (fun _ => rfl) ?_
  refine u_st rfl (fun _ => rfl) ?_
  show u_P L xs n d m_X7_copy 2 [(0, .ref (s + 1)), (1, .ref (t + 1))] [.ref (t + 1), .ref (s + 1)] S R _
  refine u_getE (v := S t 0) rfl (z_st0 ht) rfl rfl ?_
  show u_P L xs n d m_X7_copy 5 [(0, .ref (s + 1)), (1, .ref (t + 1))] [.int (S t 0), .ref (s + 1)] S R _
  refine u_put rfl (z_st0 hs) rfl ?_
  refine u_st rfl (fun _ => rfl) ?_
  show u_P L xs n d m_X7_copy 9 [(0, .ref (s + 1)), (1, .ref (t + 1))] [.ref (t + 1)] (z_s S s 0 (S t 0)) R _
  refine u_getr rfl (z_st0 ht) rfl ?_
  refine u_st rfl (fun _ => rfl) ?_
  refine u_st rfl (fun _ => rfl) ?_
  show u_P L xs n d m_X7_copy 14 [(0, .ref (s + 1)), (1, .ref (t + 1))] [.ref (s + 1), .int (Int32.ofInt 0), .ref (t + 2)] (z_s S s 0 (S t 0)) R _
  refine u_getr rfl (z_st0 hs) rfl ?_
  refine u_st rfl (fun _ => rfl) ?_
  refine u_st rfl (fun _ => rfl) ?_
  show u_P L xs n d m_X7_copy 20 [(0, .ref (s + 1)), (1, .ref (t + 1))] [.int (Int32.ofInt 12), .int (Int32.ofInt 0), .ref (s + 2), .int (Int32.ofInt 0), .ref (t + 2)] (z_s S s 0 (S t 0)) R _
  refine u_cp rfl (z_st1 ht) (z_st1 hs) (fun b11 b12 b13 => ?_)
  refine u_st rfl (fun _ => rfl) ?_
  show u_P L xs n d m_X7_copy 24 [(0, .ref (s + 1)), (1, .ref (t + 1))] [.ref (t + 1)] (z_cp (z_s S s 0 (S t 0)) (t + 1) (s + 1) (Int32.ofInt 12)) R _
  refine u_getr rfl (z_st0 ht) rfl ?_
  refine u_st rfl (fun _ => rfl) ?_
  refine u_st rfl (fun _ => rfl) ?_
  show u_P L xs n d m_X7_copy 29 [(0, .ref (s + 1)), (1, .ref (t + 1))] [.ref (s + 1), .int (Int32.ofInt 0), .ref (t + 3)] (z_cp (z_s S s 0 (S t 0)) (t + 1) (s + 1) (Int32.ofInt 12)) R _
  refine u_getr rfl (z_st0 hs) rfl ?_
  refine u_st rfl (fun _ => rfl) ?_
  refine u_st rfl (fun _ => rfl) ?_
  show u_P L xs n d m_X7_copy 35 [(0, .ref (s + 1)), (1, .ref (t + 1))] [.int (Int32.ofInt 12), .int (Int32.ofInt 0), .ref (s + 3), .int (Int32.ofInt 0), .ref (t + 3)] (z_cp (z_s S s 0 (S t 0)) (t + 1) (s + 1) (Int32.ofInt 12)) R _
  refine u_cp rfl (z_st2 ht) (z_st2 hs) (fun b21 b22 b23 => ?_)
  refine u_st rfl (fun _ => rfl) ?_
  show u_P L xs n d m_X7_copy 39 [(0, .ref (s + 1)), (1, .ref (t + 1))] [.ref (t + 1)] (z_cp (z_cp (z_s S s 0 (S t 0)) (t + 1) (s + 1) (Int32.ofInt 12)) (t + 2) (s + 2) (Int32.ofInt 12)) R _
  refine u_getr rfl (z_st0 ht) rfl ?_
  refine u_st rfl (fun _ => rfl) ?_
  refine u_st rfl (fun _ => rfl) ?_
  show u_P L xs n d m_X7_copy 44 [(0, .ref (s + 1)), (1, .ref (t + 1))] [.ref (s + 1), .int (Int32.ofInt 0), .ref (t + 4)] (z_cp (z_cp (z_s S s 0 (S t 0)) (t + 1) (s + 1) (Int32.ofInt 12)) (t + 2) (s + 2) (Int32.ofInt 12)) R _
  refine u_getr rfl (z_st0 hs) rfl ?_
  refine u_st rfl (fun _ => rfl) ?_
  refine u_st rfl (fun _ => rfl) ?_
  show u_P L xs n d m_X7_copy 50 [(0, .ref (s + 1)), (1, .ref (t + 1))] [.int (Int32.ofInt 12), .int (Int32.ofInt 0), .ref (s + 4), .int (Int32.ofInt 0), .ref (t + 4)] (z_cp (z_cp (z_s S s 0 (S t 0)) (t + 1) (s + 1) (Int32.ofInt 12)) (t + 2) (s + 2) (Int32.ofInt 12)) R _
  refine u_cp rfl (z_st3 ht) (z_st3 hs) (fun b31 b32 b33 => ?_)
  refine u_st rfl (fun _ => rfl) ?_
  show u_P L xs n d m_X7_copy 54 [(0, .ref (s + 1)), (1, .ref (t + 1))] [.ref (t + 1)] (z_cp (z_cp (z_cp (z_s S s 0 (S t 0)) (t + 1) (s + 1) (Int32.ofInt 12)) (t + 2) (s + 2) (Int32.ofInt 12)) (t + 3) (s + 3) (Int32.ofInt 12)) R _
  refine u_getr rfl (z_st0 ht) rfl ?_
  refine u_st rfl (fun _ => rfl) ?_
  refine u_st rfl (fun _ => rfl) ?_
  show u_P L xs n d m_X7_copy 59 [(0, .ref (s + 1)), (1, .ref (t + 1))] [.ref (s + 1), .int (Int32.ofInt 0), .ref (t + 5)] (z_cp (z_cp (z_cp (z_s S s 0 (S t 0)) (t + 1) (s + 1) (Int32.ofInt 12)) (t + 2) (s + 2) (Int32.ofInt 12)) (t + 3) (s + 3) (Int32.ofInt 12)) R _
  refine u_getr rfl (z_st0 hs) rfl ?_
  refine u_st rfl (fun _ => rfl) ?_
  refine u_st rfl (fun _ => rfl) ?_
  show u_P L xs n d m_X7_copy 65 [(0, .ref (s + 1)), (1, .ref (t + 1))] [.int (Int32.ofInt 12), .int (Int32.ofInt 0), .ref (s + 5), .int (Int32.ofInt 0), .ref (t + 5)] (z_cp (z_cp (z_cp (z_s S s 0 (S t 0)) (t + 1) (s + 1) (Int32.ofInt 12)) (t + 2) (s + 2) (Int32.ofInt 12)) (t + 3) (s + 3) (Int32.ofInt 12)) R _
  refine u_cp rfl (z_st4 ht) (z_st4 hs) (fun b41 b42 b43 => ?_)
  refine u_st rfl (fun _ => rfl) ?_
  show u_P L xs n d m_X7_copy 69 [(0, .ref (s + 1)), (1, .ref (t + 1))] [.ref (t + 1)] (z_cp (z_cp (z_cp (z_cp (z_s S s 0 (S t 0)) (t + 1) (s + 1) (Int32.ofInt 12)) (t + 2) (s + 2) (Int32.ofInt 12)) (t + 3) (s + 3) (Int32.ofInt 12)) (t + 4) (s + 4) (Int32.ofInt 12)) R _
  refine u_getr rfl (z_st0 ht) rfl ?_
  refine u_st rfl (fun _ => rfl) ?_
  refine u_st rfl (fun _ => rfl) ?_
  show u_P L xs n d m_X7_copy 74 [(0, .ref (s + 1)), (1, .ref (t + 1))] [.ref (s + 1), .int (Int32.ofInt 0), .ref (t + 6)] (z_cp (z_cp (z_cp (z_cp (z_s S s 0 (S t 0)) (t + 1) (s + 1) (Int32.ofInt 12)) (t + 2) (s + 2) (Int32.ofInt 12)) (t + 3) (s + 3) (Int32.ofInt 12)) (t + 4) (s + 4) (Int32.ofInt 12)) R _
  refine u_getr rfl (z_st0 hs) rfl ?_
  refine u_st rfl (fun _ => rfl) ?_
  refine u_st rfl (fun _ => rfl) ?_
  show u_P L xs n d m_X7_copy 80 [(0, .ref (s + 1)), (1, .ref (t + 1))] [.int (Int32.ofInt 12), .int (Int32.ofInt 0), .ref (s + 6), .int (Int32.ofInt 0), .ref (t + 6)] (z_cp (z_cp (z_cp (z_cp (z_s S s 0 (S t 0)) (t + 1) (s + 1) (Int32.ofInt 12)) (t + 2) (s + 2) (Int32.ofInt 12)) (t + 3) (s + 3) (Int32.ofInt 12)) (t + 4) (s + 4) (Int32.ofInt 12)) R _
  refine u_cp rfl (z_st5 ht) (z_st5 hs) (fun b51 b52 b53 => ?_)
  refine u_st rfl (fun _ => rfl) ?_
  show u_P L xs n d m_X7_copy 84 [(0, .ref (s + 1)), (1, .ref (t + 1))] [.ref (t + 1)] (z_cp (z_cp (z_cp (z_cp (z_cp (z_s S s 0 (S t 0)) (t + 1) (s + 1) (Int32.ofInt 12)) (t + 2) (s + 2) (Int32.ofInt 12)) (t + 3) (s + 3) (Int32.ofInt 12)) (t + 4) (s + 4) (Int32.ofInt 12)) (t + 5) (s + 5) (Int32.ofInt 12)) R _
  refine u_getr rfl (z_st0 ht) rfl ?_
  refine u_st rfl (fun _ => rfl) ?_
  refine u_st rfl (fun _ => rfl) ?_
  show u_P L xs n d m_X7_copy 89 [(0, .ref (s + 1)), (1, .ref (t + 1))] [.ref (s + 1), .int (Int32.ofInt 0), .ref (t + 7)] (z_cp (z_cp (z_cp (z_cp (z_cp (z_s S s 0 (S t 0)) (t + 1) (s + 1) (Int32.ofInt 12)) (t + 2) (s + 2) (Int32.ofInt 12)) (t + 3) (s + 3) (Int32.ofInt 12)) (t + 4) (s + 4) (Int32.ofInt 12)) (t + 5) (s + 5) (Int32.ofInt 12)) R _
  refine u_getr rfl (z_st0 hs) rfl ?_
  refine u_st rfl (fun _ => rfl) ?_
  refine u_st rfl (fun _ => rfl) ?_
  show u_P L xs n d m_X7_copy 95 [(0, .ref (s + 1)), (1, .ref (t + 1))] [.int (Int32.ofInt 12), .int (Int32.ofInt 0), .ref (s + 7), .int (Int32.ofInt 0), .ref (t + 7)] (z_cp (z_cp (z_cp (z_cp (z_cp (z_s S s 0 (S t 0)) (t + 1) (s + 1) (Int32.ofInt 12)) (t + 2) (s + 2) (Int32.ofInt 12)) (t + 3) (s + 3) (Int32.ofInt 12)) (t + 4) (s + 4) (Int32.ofInt 12)) (t + 5) (s + 5) (Int32.ofInt 12)) R _
  refine u_cp rfl (z_st6 ht) (z_st6 hs) (fun b61 b62 b63 => ?_)
  refine u_st rfl (fun _ => rfl) ?_
  refine u_st rfl (fun _ => rfl) ?_
  show u_P L xs n d m_X7_copy 100 [(0, .ref (s + 1)), (1, .ref (t + 1))] [.ref (t + 1), .ref (s + 1)] (z_cp (z_cp (z_cp (z_cp (z_cp (z_cp (z_s S s 0 (S t 0)) (t + 1) (s + 1) (Int32.ofInt 12)) (t + 2) (s + 2) (Int32.ofInt 12)) (t + 3) (s + 3) (Int32.ofInt 12)) (t + 4) (s + 4) (Int32.ofInt 12)) (t + 5) (s + 5) (Int32.ofInt 12)) (t + 6) (s + 6) (Int32.ofInt 12)) R _
  refine u_getE (v := (z_cp (z_cp (z_cp (z_cp (z_cp (z_cp (z_s S s 0 (S t 0)) (t + 1) (s + 1) (Int32.ofInt 12)) (t + 2) (s + 2) (Int32.ofInt 12)) (t + 3) (s + 3) (Int32.ofInt 12)) (t + 4) (s + 4) (Int32.ofInt 12)) (t + 5) (s + 5) (Int32.ofInt 12)) (t + 6) (s + 6) (Int32.ofInt 12)) t 7) rfl (z_st0 ht) rfl rfl ?_
  show u_P L xs n d m_X7_copy 103 [(0, .ref (s + 1)), (1, .ref (t + 1))] [.int ((z_cp (z_cp (z_cp (z_cp (z_cp (z_cp (z_s S s 0 (S t 0)) (t + 1) (s + 1) (Int32.ofInt 12)) (t + 2) (s + 2) (Int32.ofInt 12)) (t + 3) (s + 3) (Int32.ofInt 12)) (t + 4) (s + 4) (Int32.ofInt 12)) (t + 5) (s + 5) (Int32.ofInt 12)) (t + 6) (s + 6) (Int32.ofInt 12)) t 7), .ref (s + 1)] (z_cp (z_cp (z_cp (z_cp (z_cp (z_cp (z_s S s 0 (S t 0)) (t + 1) (s + 1) (Int32.ofInt 12)) (t + 2) (s + 2) (Int32.ofInt 12)) (t + 3) (s + 3) (Int32.ofInt 12)) (t + 4) (s + 4) (Int32.ofInt 12)) (t + 5) (s + 5) (Int32.ofInt 12)) (t + 6) (s + 6) (Int32.ofInt 12)) R _
  refine u_put rfl (z_st0 hs) rfl ?_
  refine u_st rfl (fun _ => rfl) ?_
  show u_P L xs n d m_X7_copy 107 [(0, .ref (s + 1)), (1, .ref (t + 1))] [.ref (t + 1)] (z_s (z_cp (z_cp (z_cp (z_cp (z_cp (z_cp (z_s S s 0 (S t 0)) (t + 1) (s + 1) (Int32.ofInt 12)) (t + 2) (s + 2) (Int32.ofInt 12)) (t + 3) (s + 3) (Int32.ofInt 12)) (t + 4) (s + 4) (Int32.ofInt 12)) (t + 5) (s + 5) (Int32.ofInt 12)) (t + 6) (s + 6) (Int32.ofInt 12)) s 7 ((z_cp (z_cp (z_cp (z_cp (z_cp (z_cp (z_s S s 0 (S t 0)) (t + 1) (s + 1) (Int32.ofInt 12)) (t + 2) (s + 2) (Int32.ofInt 12)) (t + 3) (s + 3) (Int32.ofInt 12)) (t + 4) (s + 4) (Int32.ofInt 12)) (t + 5) (s + 5) (Int32.ofInt 12)) (t + 6) (s + 6) (Int32.ofInt 12)) t 7)) R _
  refine u_getr rfl (z_st0 ht) rfl ?_
  refine u_st rfl (fun _ => rfl) ?_
  refine u_st rfl (fun _ => rfl) ?_
  show u_P L xs n d m_X7_copy 112 [(0, .ref (s + 1)), (1, .ref (t + 1))] [.ref (s + 1), .int (Int32.ofInt 0), .ref (t + 8)] (z_s (z_cp (z_cp (z_cp (z_cp (z_cp (z_cp (z_s S s 0 (S t 0)) (t + 1) (s + 1) (Int32.ofInt 12)) (t + 2) (s + 2) (Int32.ofInt 12)) (t + 3) (s + 3) (Int32.ofInt 12)) (t + 4) (s + 4) (Int32.ofInt 12)) (t + 5) (s + 5) (Int32.ofInt 12)) (t + 6) (s + 6) (Int32.ofInt 12)) s 7 ((z_cp (z_cp (z_cp (z_cp (z_cp (z_cp (z_s S s 0 (S t 0)) (t + 1) (s + 1) (Int32.ofInt 12)) (t + 2) (s + 2) (Int32.ofInt 12)) (t + 3) (s + 3) (Int32.ofInt 12)) (t + 4) (s + 4) (Int32.ofInt 12)) (t + 5) (s + 5) (Int32.ofInt 12)) (t + 6) (s + 6) (Int32.ofInt 12)) t 7)) R _
  refine u_getr rfl (z_st0 hs) rfl ?_
  refine u_st rfl (fun _ => rfl) ?_
  refine u_st rfl (fun _ => rfl) ?_
  show u_P L xs n d m_X7_copy 117 [(0, .ref (s + 1)), (1, .ref (t + 1))] [.int (Int32.ofInt 5), .int (Int32.ofInt 0), .ref (s + 8), .int (Int32.ofInt 0), .ref (t + 8)] (z_s (z_cp (z_cp (z_cp (z_cp (z_cp (z_cp (z_s S s 0 (S t 0)) (t + 1) (s + 1) (Int32.ofInt 12)) (t + 2) (s + 2) (Int32.ofInt 12)) (t + 3) (s + 3) (Int32.ofInt 12)) (t + 4) (s + 4) (Int32.ofInt 12)) (t + 5) (s + 5) (Int32.ofInt 12)) (t + 6) (s + 6) (Int32.ofInt 12)) s 7 ((z_cp (z_cp (z_cp (z_cp (z_cp (z_cp (z_s S s 0 (S t 0)) (t + 1) (s + 1) (Int32.ofInt 12)) (t + 2) (s + 2) (Int32.ofInt 12)) (t + 3) (s + 3) (Int32.ofInt 12)) (t + 4) (s + 4) (Int32.ofInt 12)) (t + 5) (s + 5) (Int32.ofInt 12)) (t + 6) (s + 6) (Int32.ofInt 12)) t 7)) R _
  refine u_cp rfl (z_st7 ht) (z_st7 hs) (fun b71 b72 b73 => ?_)
  refine u_st rfl (fun _ => rfl) ?_
  show u_P L xs n d m_X7_copy 121 [(0, .ref (s + 1)), (1, .ref (t + 1))] [.ref (t + 1)] (z_cp (z_s (z_cp (z_cp (z_cp (z_cp (z_cp (z_cp (z_s S s 0 (S t 0)) (t + 1) (s + 1) (Int32.ofInt 12)) (t + 2) (s + 2) (Int32.ofInt 12)) (t + 3) (s + 3) (Int32.ofInt 12)) (t + 4) (s + 4) (Int32.ofInt 12)) (t + 5) (s + 5) (Int32.ofInt 12)) (t + 6) (s + 6) (Int32.ofInt 12)) s 7 ((z_cp (z_cp (z_cp (z_cp (z_cp (z_cp (z_s S s 0 (S t 0)) (t + 1) (s + 1) (Int32.ofInt 12)) (t + 2) (s + 2) (Int32.ofInt 12)) (t + 3) (s + 3) (Int32.ofInt 12)) (t + 4) (s + 4) (Int32.ofInt 12)) (t + 5) (s + 5) (Int32.ofInt 12)) (t + 6) (s + 6) (Int32.ofInt 12)) t 7)) (t + 7) (s + 7) (Int32.ofInt 5)) R _
  refine u_getr rfl (z_st0 ht) rfl ?_
  refine u_st rfl (fun _ => rfl) ?_
  refine u_st rfl (fun _ => rfl) ?_
  show u_P L xs n d m_X7_copy 126 [(0, .ref (s + 1)), (1, .ref (t + 1))] [.ref (s + 1), .int (Int32.ofInt 0), .ref (t + 9)] (z_cp (z_s (z_cp (z_cp (z_cp (z_cp (z_cp (z_cp (z_s S s 0 (S t 0)) (t + 1) (s + 1) (Int32.ofInt 12)) (t + 2) (s + 2) (Int32.ofInt 12)) (t + 3) (s + 3) (Int32.ofInt 12)) (t + 4) (s + 4) (Int32.ofInt 12)) (t + 5) (s + 5) (Int32.ofInt 12)) (t + 6) (s + 6) (Int32.ofInt 12)) s 7 ((z_cp (z_cp (z_cp (z_cp (z_cp (z_cp (z_s S s 0 (S t 0)) (t + 1) (s + 1) (Int32.ofInt 12)) (t + 2) (s + 2) (Int32.ofInt 12)) (t + 3) (s + 3) (Int32.ofInt 12)) (t + 4) (s + 4) (Int32.ofInt 12)) (t + 5) (s + 5) (Int32.ofInt 12)) (t + 6) (s + 6) (Int32.ofInt 12)) t 7)) (t + 7) (s + 7) (Int32.ofInt 5)) R _
  refine u_getr rfl (z_st0 hs) rfl ?_
  refine u_st rfl (fun _ => rfl) ?_
  refine u_st rfl (fun _ => rfl) ?_
  show u_P L xs n d m_X7_copy 131 [(0, .ref (s + 1)), (1, .ref (t + 1))] [.int (Int32.ofInt 5), .int (Int32.ofInt 0), .ref (s + 9), .int (Int32.ofInt 0), .ref (t + 9)] (z_cp (z_s (z_cp (z_cp (z_cp (z_cp (z_cp (z_cp (z_s S s 0 (S t 0)) (t + 1) (s + 1) (Int32.ofInt 12)) (t + 2) (s + 2) (Int32.ofInt 12)) (t + 3) (s + 3) (Int32.ofInt 12)) (t + 4) (s + 4) (Int32.ofInt 12)) (t + 5) (s + 5) (Int32.ofInt 12)) (t + 6) (s + 6) (Int32.ofInt 12)) s 7 ((z_cp (z_cp (z_cp (z_cp (z_cp (z_cp (z_s S s 0 (S t 0)) (t + 1) (s + 1) (Int32.ofInt 12)) (t + 2) (s + 2) (Int32.ofInt 12)) (t + 3) (s + 3) (Int32.ofInt 12)) (t + 4) (s + 4) (Int32.ofInt 12)) (t + 5) (s + 5) (Int32.ofInt 12)) (t + 6) (s + 6) (Int32.ofInt 12)) t 7)) (t + 7) (s + 7) (Int32.ofInt 5)) R _
  refine u_cp rfl (z_st8 ht) (z_st8 hs) (fun b81 b82 b83 => ?_)
  refine u_st rfl (fun _ => rfl) ?_
  show u_P L xs n d m_X7_copy 135 [(0, .ref (s + 1)), (1, .ref (t + 1))] [.ref (t + 1)] (z_cp (z_cp (z_s (z_cp (z_cp (z_cp (z_cp (z_cp (z_cp (z_s S s 0 (S t 0)) (t + 1) (s + 1) (Int32.ofInt 12)) (t + 2) (s + 2) (Int32.ofInt 12)) (t + 3) (s + 3) (Int32.ofInt 12)) (t + 4) (s + 4) (Int32.ofInt 12)) (t + 5) (s + 5) (Int32.ofInt 12)) (t + 6) (s + 6) (Int32.ofInt 12)) s 7 ((z_cp (z_cp (z_cp (z_cp (z_cp (z_cp (z_s S s 0 (S t 0)) (t + 1) (s + 1) (Int32.ofInt 12)) (t + 2) (s + 2) (Int32.ofInt 12)) (t + 3) (s + 3) (Int32.ofInt 12)) (t + 4) (s + 4) (Int32.ofInt 12)) (t + 5) (s + 5) (Int32.ofInt 12)) (t + 6) (s + 6) (Int32.ofInt 12)) t 7)) (t + 7) (s + 7) (Int32.ofInt 5)) (t + 8) (s + 8) (Int32.ofInt 5)) R _
  refine u_getr rfl (z_st0 ht) rfl ?_
  refine u_st rfl (fun _ => rfl) ?_
  refine u_st rfl (fun _ => rfl) ?_
  show u_P L xs n d m_X7_copy 140 [(0, .ref (s + 1)), (1, .ref (t + 1))] [.ref (s + 1), .int (Int32.ofInt 0), .ref (t + 10)] (z_cp (z_cp (z_s (z_cp (z_cp (z_cp (z_cp (z_cp (z_cp (z_s S s 0 (S t 0)) (t + 1) (s + 1) (Int32.ofInt 12)) (t + 2) (s + 2) (Int32.ofInt 12)) (t + 3) (s + 3) (Int32.ofInt 12)) (t + 4) (s + 4) (Int32.ofInt 12)) (t + 5) (s + 5) (Int32.ofInt 12)) (t + 6) (s + 6) (Int32.ofInt 12)) s 7 ((z_cp (z_cp (z_cp (z_cp (z_cp (z_cp (z_s S s 0 (S t 0)) (t + 1) (s + 1) (Int32.ofInt 12)) (t + 2) (s + 2) (Int32.ofInt 12)) (t + 3) (s + 3) (Int32.ofInt 12)) (t + 4) (s + 4) (Int32.ofInt 12)) (t + 5) (s + 5) (Int32.ofInt 12)) (t + 6) (s + 6) (Int32.ofInt 12)) t 7)) (t + 7) (s + 7) (Int32.ofInt 5)) (t + 8) (s + 8) (Int32.ofInt 5)) R _
  refine u_getr rfl (z_st0 hs) rfl ?_
  refine u_st rfl (fun _ => rfl) ?_
  refine u_st rfl (fun _ => rfl) ?_
  show u_P L xs n d m_X7_copy 146 [(0, .ref (s + 1)), (1, .ref (t + 1))] [.int (Int32.ofInt 6), .int (Int32.ofInt 0), .ref (s + 10), .int (Int32.ofInt 0), .ref (t + 10)] (z_cp (z_cp (z_s (z_cp (z_cp (z_cp (z_cp (z_cp (z_cp (z_s S s 0 (S t 0)) (t + 1) (s + 1) (Int32.ofInt 12)) (t + 2) (s + 2) (Int32.ofInt 12)) (t + 3) (s + 3) (Int32.ofInt 12)) (t + 4) (s + 4) (Int32.ofInt 12)) (t + 5) (s + 5) (Int32.ofInt 12)) (t + 6) (s + 6) (Int32.ofInt 12)) s 7 ((z_cp (z_cp (z_cp (z_cp (z_cp (z_cp (z_s S s 0 (S t 0)) (t + 1) (s + 1) (Int32.ofInt 12)) (t + 2) (s + 2) (Int32.ofInt 12)) (t + 3) (s + 3) (Int32.ofInt 12)) (t + 4) (s + 4) (Int32.ofInt 12)) (t + 5) (s + 5) (Int32.ofInt 12)) (t + 6) (s + 6) (Int32.ofInt 12)) t 7)) (t + 7) (s + 7) (Int32.ofInt 5)) (t + 8) (s + 8) (Int32.ofInt 5)) R _
  refine u_cp rfl (z_st9 ht) (z_st9 hs) (fun b91 b92 b93 => ?_)
  refine u_st rfl (fun _ => rfl) ?_
  refine u_st rfl (fun _ => rfl) ?_
  show u_P L xs n d m_X7_copy 151 [(0, .ref (s + 1)), (1, .ref (t + 1))] [.ref (t + 1), .ref (s + 1)] (z_cp (z_cp (z_cp (z_s (z_cp (z_cp (z_cp (z_cp (z_cp (z_cp (z_s S s 0 (S t 0)) (t + 1) (s + 1) (Int32.ofInt 12)) (t + 2) (s + 2) (Int32.ofInt 12)) (t + 3) (s + 3) (Int32.ofInt 12)) (t + 4) (s + 4) (Int32.ofInt 12)) (t + 5) (s + 5) (Int32.ofInt 12)) (t + 6) (s + 6) (Int32.ofInt 12)) s 7 ((z_cp (z_cp (z_cp (z_cp (z_cp (z_cp (z_s S s 0 (S t 0)) (t + 1) (s + 1) (Int32.ofInt 12)) (t + 2) (s + 2) (Int32.ofInt 12)) (t + 3) (s + 3) (Int32.ofInt 12)) (t + 4) (s + 4) (Int32.ofInt 12)) (t + 5) (s + 5) (Int32.ofInt 12)) (t + 6) (s + 6) (Int32.ofInt 12)) t 7)) (t + 7) (s + 7) (Int32.ofInt 5)) (t + 8) (s + 8) (Int32.ofInt 5)) (t + 9) (s + 9) (Int32.ofInt 6)) R _
  refine u_getE (v := (z_cp (z_cp (z_cp (z_s (z_cp (z_cp (z_cp (z_cp (z_cp (z_cp (z_s S s 0 (S t 0)) (t + 1) (s + 1) (Int32.ofInt 12)) (t + 2) (s + 2) (Int32.ofInt 12)) (t + 3) (s + 3) (Int32.ofInt 12)) (t + 4) (s + 4) (Int32.ofInt 12)) (t + 5) (s + 5) (Int32.ofInt 12)) (t + 6) (s + 6) (Int32.ofInt 12)) s 7 ((z_cp (z_cp (z_cp (z_cp (z_cp (z_cp (z_s S s 0 (S t 0)) (t + 1) (s + 1) (Int32.ofInt 12)) (t + 2) (s + 2) (Int32.ofInt 12)) (t + 3) (s + 3) (Int32.ofInt 12)) (t + 4) (s + 4) (Int32.ofInt 12)) (t + 5) (s + 5) (Int32.ofInt 12)) (t + 6) (s + 6) (Int32.ofInt 12)) t 7)) (t + 7) (s + 7) (Int32.ofInt 5)) (t + 8) (s + 8) (Int32.ofInt 5)) (t + 9) (s + 9) (Int32.ofInt 6)) t 11) rfl (z_st0 ht) rfl rfl ?_
  show u_P L xs n d m_X7_copy 154 [(0, .ref (s + 1)), (1, .ref (t + 1))] [.int ((z_cp (z_cp (z_cp (z_s (z_cp (z_cp (z_cp (z_cp (z_cp (z_cp (z_s S s 0 (S t 0)) (t + 1) (s + 1) (Int32.ofInt 12)) (t + 2) (s + 2) (Int32.ofInt 12)) (t + 3) (s + 3) (Int32.ofInt 12)) (t + 4) (s + 4) (Int32.ofInt 12)) (t + 5) (s + 5) (Int32.ofInt 12)) (t + 6) (s + 6) (Int32.ofInt 12)) s 7 ((z_cp (z_cp (z_cp (z_cp (z_cp (z_cp (z_s S s 0 (S t 0)) (t + 1) (s + 1) (Int32.ofInt 12)) (t + 2) (s + 2) (Int32.ofInt 12)) (t + 3) (s + 3) (Int32.ofInt 12)) (t + 4) (s + 4) (Int32.ofInt 12)) (t + 5) (s + 5) (Int32.ofInt 12)) (t + 6) (s + 6) (Int32.ofInt 12)) t 7)) (t + 7) (s + 7) (Int32.ofInt 5)) (t + 8) (s + 8) (Int32.ofInt 5)) (t + 9) (s + 9) (Int32.ofInt 6)) t 11), .ref (s + 1)] (z_cp (z_cp (z_cp (z_s (z_cp (z_cp (z_cp (z_cp (z_cp (z_cp (z_s S s 0 (S t 0)) (t + 1) (s + 1) (Int32.ofInt 12)) (t + 2) (s + 2) (Int32.ofInt 12)) (t + 3) (s + 3) (Int32.ofInt 12)) (t + 4) (s + 4) (Int32.ofInt 12)) (t + 5) (s + 5) (Int32.ofInt 12)) (t + 6) (s + 6) (Int32.ofInt 12)) s 7 ((z_cp (z_cp (z_cp (z_cp (z_cp (z_cp (z_s S s 0 (S t 0)) (t + 1) (s + 1) (Int32.ofInt 12)) (t + 2) (s + 2) (Int32.ofInt 12)) (t + 3) (s + 3) (Int32.ofInt 12)) (t + 4) (s + 4) (Int32.ofInt 12)) (t + 5) (s + 5) (Int32.ofInt 12)) (t + 6) (s + 6) (Int32.ofInt 12)) t 7)) (t + 7) (s + 7) (Int32.ofInt 5)) (t + 8) (s + 8) (Int32.ofInt 5)) (t + 9) (s + 9) (Int32.ofInt 6)) R _
  refine u_put rfl (z_st0 hs) rfl ?_
  refine u_st rfl (fun _ => rfl) ?_
  refine u_st rfl (fun _ => rfl) ?_
  show u_P L xs n d m_X7_copy 159 [(0, .ref (s + 1)), (1, .ref (t + 1))] [.ref (t + 1), .ref (s + 1)] (z_s (z_cp (z_cp (z_cp (z_s (z_cp (z_cp (z_cp (z_cp (z_cp (z_cp (z_s S s 0 (S t 0)) (t + 1) (s + 1) (Int32.ofInt 12)) (t + 2) (s + 2) (Int32.ofInt 12)) (t + 3) (s + 3) (Int32.ofInt 12)) (t + 4) (s + 4) (Int32.ofInt 12)) (t + 5) (s + 5) (Int32.ofInt 12)) (t + 6) (s + 6) (Int32.ofInt 12)) s 7 ((z_cp (z_cp (z_cp (z_cp (z_cp (z_cp (z_s S s 0 (S t 0)) (t + 1) (s + 1) (Int32.ofInt 12)) (t + 2) (s + 2) (Int32.ofInt 12)) (t + 3) (s + 3) (Int32.ofInt 12)) (t + 4) (s + 4) (Int32.ofInt 12)) (t + 5) (s + 5) (Int32.ofInt 12)) (t + 6) (s + 6) (Int32.ofInt 12)) t 7)) (t + 7) (s + 7) (Int32.ofInt 5)) (t + 8) (s + 8) (Int32.ofInt 5)) (t + 9) (s + 9) (Int32.ofInt 6)) s 11 ((z_cp (z_cp (z_cp (z_s (z_cp (z_cp (z_cp (z_cp (z_cp (z_cp (z_s S s 0 (S t 0)) (t + 1) (s + 1) (Int32.ofInt 12)) (t + 2) (s + 2) (Int32.ofInt 12)) (t + 3) (s + 3) (Int32.ofInt 12)) (t + 4) (s + 4) (Int32.ofInt 12)) (t + 5) (s + 5) (Int32.ofInt 12)) (t + 6) (s + 6) (Int32.ofInt 12)) s 7 ((z_cp (z_cp (z_cp (z_cp (z_cp (z_cp (z_s S s 0 (S t 0)) (t + 1) (s + 1) (Int32.ofInt 12)) (t + 2) (s + 2) (Int32.ofInt 12)) (t + 3) (s + 3) (Int32.ofInt 12)) (t + 4) (s + 4) (Int32.ofInt 12)) (t + 5) (s + 5) (Int32.ofInt 12)) (t + 6) (s + 6) (Int32.ofInt 12)) t 7)) (t + 7) (s + 7) (Int32.ofInt 5)) (t + 8) (s + 8) (Int32.ofInt 5)) (t + 9) (s + 9) (Int32.ofInt 6)) t 11)) R _
  refine u_getE (v := (z_s (z_cp (z_cp (z_cp (z_s (z_cp (z_cp (z_cp (z_cp (z_cp (z_cp (z_s S s 0 (S t 0)) (t + 1) (s + 1) (Int32.ofInt 12)) (t + 2) (s + 2) (Int32.ofInt 12)) (t + 3) (s + 3) (Int32.ofInt 12)) (t + 4) (s + 4) (Int32.ofInt 12)) (t + 5) (s + 5) (Int32.ofInt 12)) (t + 6) (s + 6) (Int32.ofInt 12)) s 7 ((z_cp (z_cp (z_cp (z_cp (z_cp (z_cp (z_s S s 0 (S t 0)) (t + 1) (s + 1) (Int32.ofInt 12)) (t + 2) (s + 2) (Int32.ofInt 12)) (t + 3) (s + 3) (Int32.ofInt 12)) (t + 4) (s + 4) (Int32.ofInt 12)) (t + 5) (s + 5) (Int32.ofInt 12)) (t + 6) (s + 6) (Int32.ofInt 12)) t 7)) (t + 7) (s + 7) (Int32.ofInt 5)) (t + 8) (s + 8) (Int32.ofInt 5)) (t + 9) (s + 9) (Int32.ofInt 6)) s 11 ((z_cp (z_cp (z_cp (z_s (z_cp (z_cp (z_cp (z_cp (z_cp (z_cp (z_s S s 0 (S t 0)) (t + 1) (s + 1) (Int32.ofInt 12)) (t + 2) (s + 2) (Int32.ofInt 12)) (t + 3) (s + 3) (Int32.ofInt 12)) (t + 4) (s + 4) (Int32.ofInt 12)) (t + 5) (s + 5) (Int32.ofInt 12)) (t + 6) (s + 6) (Int32.ofInt 12)) s 7 ((z_cp (z_cp (z_cp (z_cp (z_cp (z_cp (z_s S s 0 (S t 0)) (t + 1) (s + 1) (Int32.ofInt 12)) (t + 2) (s + 2) (Int32.ofInt 12)) (t + 3) (s + 3) (Int32.ofInt 12)) (t + 4) (s + 4) (Int32.ofInt 12)) (t + 5) (s + 5) (Int32.ofInt 12)) (t + 6) (s + 6) (Int32.ofInt 12)) t 7)) (t + 7) (s + 7) (Int32.ofInt 5)) (t + 8) (s + 8) (Int32.ofInt 5)) (t + 9) (s + 9) (Int32.ofInt 6)) t 11)) t 12) rfl (z_st0 ht) rfl rfl ?_
  show u_P L xs n d m_X7_copy 162 [(0, .ref (s + 1)), (1, .ref (t + 1))] [.int ((z_s (z_cp (z_cp (z_cp (z_s (z_cp (z_cp (z_cp (z_cp (z_cp (z_cp (z_s S s 0 (S t 0)) (t + 1) (s + 1) (Int32.ofInt 12)) (t + 2) (s + 2) (Int32.ofInt 12)) (t + 3) (s + 3) (Int32.ofInt 12)) (t + 4) (s + 4) (Int32.ofInt 12)) (t + 5) (s + 5) (Int32.ofInt 12)) (t + 6) (s + 6) (Int32.ofInt 12)) s 7 ((z_cp (z_cp (z_cp (z_cp (z_cp (z_cp (z_s S s 0 (S t 0)) (t + 1) (s + 1) (Int32.ofInt 12)) (t + 2) (s + 2) (Int32.ofInt 12)) (t + 3) (s + 3) (Int32.ofInt 12)) (t + 4) (s + 4) (Int32.ofInt 12)) (t + 5) (s + 5) (Int32.ofInt 12)) (t + 6) (s + 6) (Int32.ofInt 12)) t 7)) (t + 7) (s + 7) (Int32.ofInt 5)) (t + 8) (s + 8) (Int32.ofInt 5)) (t + 9) (s + 9) (Int32.ofInt 6)) s 11 ((z_cp (z_cp (z_cp (z_s (z_cp (z_cp (z_cp (z_cp (z_cp (z_cp (z_s S s 0 (S t 0)) (t + 1) (s + 1) (Int32.ofInt 12)) (t + 2) (s + 2) (Int32.ofInt 12)) (t + 3) (s + 3) (Int32.ofInt 12)) (t + 4) (s + 4) (Int32.ofInt 12)) (t + 5) (s + 5) (Int32.ofInt 12)) (t + 6) (s + 6) (Int32.ofInt 12)) s 7 ((z_cp (z_cp (z_cp (z_cp (z_cp (z_cp (z_s S s 0 (S t 0)) (t + 1) (s + 1) (Int32.ofInt 12)) (t + 2) (s + 2) (Int32.ofInt 12)) (t + 3) (s + 3) (Int32.ofInt 12)) (t + 4) (s + 4) (Int32.ofInt 12)) (t + 5) (s + 5) (Int32.ofInt 12)) (t + 6) (s + 6) (Int32.ofInt 12)) t 7)) (t + 7) (s + 7) (Int32.ofInt 5)) (t + 8) (s + 8) (Int32.ofInt 5)) (t + 9) (s + 9) (Int32.ofInt 6)) t 11)) t 12), .ref (s + 1)] (z_s (z_cp (z_cp (z_cp (z_s (z_cp (z_cp (z_cp (z_cp (z_cp (z_cp (z_s S s 0 (S t 0)) (t + 1) (s + 1) (Int32.ofInt 12)) (t + 2) (s + 2) (Int32.ofInt 12)) (t + 3) (s + 3) (Int32.ofInt 12)) (t + 4) (s + 4) (Int32.ofInt 12)) (t + 5) (s + 5) (Int32.ofInt 12)) (t + 6) (s + 6) (Int32.ofInt 12)) s 7 ((z_cp (z_cp (z_cp (z_cp (z_cp (z_cp (z_s S s 0 (S t 0)) (t + 1) (s + 1) (Int32.ofInt 12)) (t + 2) (s + 2) (Int32.ofInt 12)) (t + 3) (s + 3) (Int32.ofInt 12)) (t + 4) (s + 4) (Int32.ofInt 12)) (t + 5) (s + 5) (Int32.ofInt 12)) (t + 6) (s + 6) (Int32.ofInt 12)) t 7)) (t + 7) (s + 7) (Int32.ofInt 5)) (t + 8) (s + 8) (Int32.ofInt 5)) (t + 9) (s + 9) (Int32.ofInt 6)) s 11 ((z_cp (z_cp (z_cp (z_s (z_cp (z_cp (z_cp (z_cp (z_cp (z_cp (z_s S s 0 (S t 0)) (t + 1) (s + 1) (Int32.ofInt 12)) (t + 2) (s + 2) (Int32.ofInt 12)) (t + 3) (s + 3) (Int32.ofInt 12)) (t + 4) (s + 4) (Int32.ofInt 12)) (t + 5) (s + 5) (Int32.ofInt 12)) (t + 6) (s + 6) (Int32.ofInt 12)) s 7 ((z_cp (z_cp (z_cp (z_cp (z_cp (z_cp (z_s S s 0 (S t 0)) (t + 1) (s + 1) (Int32.ofInt 12)) (t + 2) (s + 2) (Int32.ofInt 12)) (t + 3) (s + 3) (Int32.ofInt 12)) (t + 4) (s + 4) (Int32.ofInt 12)) (t + 5) (s + 5) (Int32.ofInt 12)) (t + 6) (s + 6) (Int32.ofInt 12)) t 7)) (t + 7) (s + 7) (Int32.ofInt 5)) (t + 8) (s + 8) (Int32.ofInt 5)) (t + 9) (s + 9) (Int32.ofInt 6)) t 11)) R _
  refine u_put rfl (z_st0 hs) rfl ?_
  refine u_st rfl (fun _ => rfl) ?_
  refine u_st rfl (fun _ => rfl) ?_
  show u_P L xs n d m_X7_copy 167 [(0, .ref (s + 1)), (1, .ref (t + 1))] [.ref (t + 1), .ref (s + 1)] (z_s (z_s (z_cp (z_cp (z_cp (z_s (z_cp (z_cp (z_cp (z_cp (z_cp (z_cp (z_s S s 0 (S t 0)) (t + 1) (s + 1) (Int32.ofInt 12)) (t + 2) (s + 2) (Int32.ofInt 12)) (t + 3) (s + 3) (Int32.ofInt 12)) (t + 4) (s + 4) (Int32.ofInt 12)) (t + 5) (s + 5) (Int32.ofInt 12)) (t + 6) (s + 6) (Int32.ofInt 12)) s 7 ((z_cp (z_cp (z_cp (z_cp (z_cp (z_cp (z_s S s 0 (S t 0)) (t + 1) (s + 1) (Int32.ofInt 12)) (t + 2) (s + 2) (Int32.ofInt 12)) (t + 3) (s + 3) (Int32.ofInt 12)) (t + 4) (s + 4) (Int32.ofInt 12)) (t + 5) (s + 5) (Int32.ofInt 12)) (t + 6) (s + 6) (Int32.ofInt 12)) t 7)) (t + 7) (s + 7) (Int32.ofInt 5)) (t + 8) (s + 8) (Int32.ofInt 5)) (t + 9) (s + 9) (Int32.ofInt 6)) s 11 ((z_cp (z_cp (z_cp (z_s (z_cp (z_cp (z_cp (z_cp (z_cp (z_cp (z_s S s 0 (S t 0)) (t + 1) (s + 1) (Int32.ofInt 12)) (t + 2) (s + 2) (Int32.ofInt 12)) (t + 3) (s + 3) (Int32.ofInt 12)) (t + 4) (s + 4) (Int32.ofInt 12)) (t + 5) (s + 5) (Int32.ofInt 12)) (t + 6) (s + 6) (Int32.ofInt 12)) s 7 ((z_cp (z_cp (z_cp (z_cp (z_cp (z_cp (z_s S s 0 (S t 0)) (t + 1) (s + 1) (Int32.ofInt 12)) (t + 2) (s + 2) (Int32.ofInt 12)) (t + 3) (s + 3) (Int32.ofInt 12)) (t + 4) (s + 4) (Int32.ofInt 12)) (t + 5) (s + 5) (Int32.ofInt 12)) (t + 6) (s + 6) (Int32.ofInt 12)) t 7)) (t + 7) (s + 7) (Int32.ofInt 5)) (t + 8) (s + 8) (Int32.ofInt 5)) (t + 9) (s + 9) (Int32.ofInt 6)) t 11)) s 12 ((z_s (z_cp (z_cp (z_cp (z_s (z_cp (z_cp (z_cp (z_cp (z_cp (z_cp (z_s S s 0 (S t 0)) (t + 1) (s + 1) (Int32.ofInt 12)) (t + 2) (s + 2) (Int32.ofInt 12)) (t + 3) (s + 3) (Int32.ofInt 12)) (t + 4) (s + 4) (Int32.ofInt 12)) (t + 5) (s + 5) (Int32.ofInt 12)) (t + 6) (s + 6) (Int32.ofInt 12)) s 7 ((z_cp (z_cp (z_cp (z_cp (z_cp (z_cp (z_s S s 0 (S t 0)) (t + 1) (s + 1) (Int32.ofInt 12)) (t + 2) (s + 2) (Int32.ofInt 12)) (t + 3) (s + 3) (Int32.ofInt 12)) (t + 4) (s + 4) (Int32.ofInt 12)) (t + 5) (s + 5) (Int32.ofInt 12)) (t + 6) (s + 6) (Int32.ofInt 12)) t 7)) (t + 7) (s + 7) (Int32.ofInt 5)) (t + 8) (s + 8) (Int32.ofInt 5)) (t + 9) (s + 9) (Int32.ofInt 6)) s 11 ((z_cp (z_cp (z_cp (z_s (z_cp (z_cp (z_cp (z_cp (z_cp (z_cp (z_s S s 0 (S t 0)) (t + 1) (s + 1) (Int32.ofInt 12)) (t + 2) (s + 2) (Int32.ofInt 12)) (t + 3) (s + 3) (Int32.ofInt 12)) (t + 4) (s + 4) (Int32.ofInt 12)) (t + 5) (s + 5) (Int32.ofInt 12)) (t + 6) (s + 6) (Int32.ofInt 12)) s 7 ((z_cp (z_cp (z_cp (z_cp (z_cp (z_cp (z_s S s 0 (S t 0)) (t + 1) (s + 1) (Int32.ofInt 12)) (t + 2) (s + 2) (Int32.ofInt 12)) (t + 3) (s + 3) (Int32.ofInt 12)) (t + 4) (s + 4) (Int32.ofInt 12)) (t + 5) (s + 5) (Int32.ofInt 12)) (t + 6) (s + 6) (Int32.ofInt 12)) t 7)) (t + 7) (s + 7) (Int32.ofInt 5)) (t + 8) (s + 8) (Int32.ofInt 5)) (t + 9) (s + 9) (Int32.ofInt 6)) t 11)) t 12)) R _
  refine u_getE (v := (z_s (z_s (z_cp (z_cp (z_cp (z_s (z_cp (z_cp (z_cp (z_cp (z_cp (z_cp (z_s S s 0 (S t 0)) (t + 1) (s + 1) (Int32.ofInt 12)) (t + 2) (s + 2) (Int32.ofInt 12)) (t + 3) (s + 3) (Int32.ofInt 12)) (t + 4) (s + 4) (Int32.ofInt 12)) (t + 5) (s + 5) (Int32.ofInt 12)) (t + 6) (s + 6) (Int32.ofInt 12)) s 7 ((z_cp (z_cp (z_cp (z_cp (z_cp (z_cp (z_s S s 0 (S t 0)) (t + 1) (s + 1) (Int32.ofInt 12)) (t + 2) (s + 2) (Int32.ofInt 12)) (t + 3) (s + 3) (Int32.ofInt 12)) (t + 4) (s + 4) (Int32.ofInt 12)) (t + 5) (s + 5) (Int32.ofInt 12)) (t + 6) (s + 6) (Int32.ofInt 12)) t 7)) (t + 7) (s + 7) (Int32.ofInt 5)) (t + 8) (s + 8) (Int32.ofInt 5)) (t + 9) (s + 9) (Int32.ofInt 6)) s 11 ((z_cp (z_cp (z_cp (z_s (z_cp (z_cp (z_cp (z_cp (z_cp (z_cp (z_s S s 0 (S t 0)) (t + 1) (s + 1) (Int32.ofInt 12)) (t + 2) (s + 2) (Int32.ofInt 12)) (t + 3) (s + 3) (Int32.ofInt 12)) (t + 4) (s + 4) (Int32.ofInt 12)) (t + 5) (s + 5) (Int32.ofInt 12)) (t + 6) (s + 6) (Int32.ofInt 12)) s 7 ((z_cp (z_cp (z_cp (z_cp (z_cp (z_cp (z_s S s 0 (S t 0)) (t + 1) (s + 1) (Int32.ofInt 12)) (t + 2) (s + 2) (Int32.ofInt 12)) (t + 3) (s + 3) (Int32.ofInt 12)) (t + 4) (s + 4) (Int32.ofInt 12)) (t + 5) (s + 5) (Int32.ofInt 12)) (t + 6) (s + 6) (Int32.ofInt 12)) t 7)) (t + 7) (s + 7) (Int32.ofInt 5)) (t + 8) (s + 8) (Int32.ofInt 5)) (t + 9) (s + 9) (Int32.ofInt 6)) t 11)) s 12 ((z_s (z_cp (z_cp (z_cp (z_s (z_cp (z_cp (z_cp (z_cp (z_cp (z_cp (z_s S s 0 (S t 0)) (t + 1) (s + 1) (Int32.ofInt 12)) (t + 2) (s + 2) (Int32.ofInt 12)) (t + 3) (s + 3) (Int32.ofInt 12)) (t + 4) (s + 4) (Int32.ofInt 12)) (t + 5) (s + 5) (Int32.ofInt 12)) (t + 6) (s + 6) (Int32.ofInt 12)) s 7 ((z_cp (z_cp (z_cp (z_cp (z_cp (z_cp (z_s S s 0 (S t 0)) (t + 1) (s + 1) (Int32.ofInt 12)) (t + 2) (s + 2) (Int32.ofInt 12)) (t + 3) (s + 3) (Int32.ofInt 12)) (t + 4) (s + 4) (Int32.ofInt 12)) (t + 5) (s + 5) (Int32.ofInt 12)) (t + 6) (s + 6) (Int32.ofInt 12)) t 7)) (t + 7) (s + 7) (Int32.ofInt 5)) (t + 8) (s + 8) (Int32.ofInt 5)) (t + 9) (s + 9) (Int32.ofInt 6)) s 11 ((z_cp (z_cp (z_cp (z_s (z_cp (z_cp (z_cp (z_cp (z_cp (z_cp (z_s S s 0 (S t 0)) (t + 1) (s + 1) (Int32.ofInt 12)) (t + 2) (s + 2) (Int32.ofInt 12)) (t + 3) (s + 3) (Int32.ofInt 12)) (t + 4) (s + 4) (Int32.ofInt 12)) (t + 5) (s + 5) (Int32.ofInt 12)) (t + 6) (s + 6) (Int32.ofInt 12)) s 7 ((z_cp (z_cp (z_cp (z_cp (z_cp (z_cp (z_s S s 0 (S t 0)) (t + 1) (s + 1) (Int32.ofInt 12)) (t + 2) (s + 2) (Int32.ofInt 12)) (t + 3) (s + 3) (Int32.ofInt 12)) (t + 4) (s + 4) (Int32.ofInt 12)) (t + 5) (s + 5) (Int32.ofInt 12)) (t + 6) (s + 6) (Int32.ofInt 12)) t 7)) (t + 7) (s + 7) (Int32.ofInt 5)) (t + 8) (s + 8) (Int32.ofInt 5)) (t + 9) (s + 9) (Int32.ofInt 6)) t 11)) t 12)) t 13) rfl (z_st0 ht) rfl rfl ?_
  show u_P L xs n d m_X7_copy 170 [(0, .ref (s + 1)), (1, .ref (t + 1))] [.int ((z_s (z_s (z_cp (z_cp (z_cp (z_s (z_cp (z_cp (z_cp (z_cp (z_cp (z_cp (z_s S s 0 (S t 0)) (t + 1) (s + 1) (Int32.ofInt 12)) (t + 2) (s + 2) (Int32.ofInt 12)) (t + 3) (s + 3) (Int32.ofInt 12)) (t + 4) (s + 4) (Int32.ofInt 12)) (t + 5) (s + 5) (Int32.ofInt 12)) (t + 6) (s + 6) (Int32.ofInt 12)) s 7 ((z_cp (z_cp (z_cp (z_cp (z_cp (z_cp (z_s S s 0 (S t 0)) (t + 1) (s + 1) (Int32.ofInt 12)) (t + 2) (s + 2) (Int32.ofInt 12)) (t + 3) (s + 3) (Int32.ofInt 12)) (t + 4) (s + 4) (Int32.ofInt 12)) (t + 5) (s + 5) (Int32.ofInt 12)) (t + 6) (s + 6) (Int32.ofInt 12)) t 7)) (t + 7) (s + 7) (Int32.ofInt 5)) (t + 8) (s + 8) (Int32.ofInt 5)) (t + 9) (s + 9) (Int32.ofInt 6)) s 11 ((z_cp (z_cp (z_cp (z_s (z_cp (z_cp (z_cp (z_cp (z_cp (z_cp (z_s S s 0 (S t 0)) (t + 1) (s + 1) (Int32.ofInt 12)) (t + 2) (s + 2) (Int32.ofInt 12)) (t + 3) (s + 3) (Int32.ofInt 12)) (t + 4) (s + 4) (Int32.ofInt 12)) (t + 5) (s + 5) (Int32.ofInt 12)) (t + 6) (s + 6) (Int32.ofInt 12)) s 7 ((z_cp (z_cp (z_cp (z_cp (z_cp (z_cp (z_s S s 0 (S t 0)) (t + 1) (s + 1) (Int32.ofInt 12)) (t + 2) (s + 2) (Int32.ofInt 12)) (t + 3) (s + 3) (Int32.ofInt 12)) (t + 4) (s + 4) (Int32.ofInt 12)) (t + 5) (s + 5) (Int32.ofInt 12)) (t + 6) (s + 6) (Int32.ofInt 12)) t 7)) (t + 7) (s + 7) (Int32.ofInt 5)) (t + 8) (s + 8) (Int32.ofInt 5)) (t + 9) (s + 9) (Int32.ofInt 6)) t 11)) s 12 ((z_s (z_cp (z_cp (z_cp (z_s (z_cp (z_cp (z_cp (z_cp (z_cp (z_cp (z_s S s 0 (S t 0)) (t + 1) (s + 1) (Int32.ofInt 12)) (t + 2) (s + 2) (Int32.ofInt 12)) (t + 3) (s + 3) (Int32.ofInt 12)) (t + 4) (s + 4) (Int32.ofInt 12)) (t + 5) (s + 5) (Int32.ofInt 12)) (t + 6) (s + 6) (Int32.ofInt 12)) s 7 ((z_cp (z_cp (z_cp (z_cp (z_cp (z_cp (z_s S s 0 (S t 0)) (t + 1) (s + 1) (Int32.ofInt 12)) (t + 2) (s + 2) (Int32.ofInt 12)) (t + 3) (s + 3) (Int32.ofInt 12)) (t + 4) (s + 4) (Int32.ofInt 12)) (t + 5) (s + 5) (Int32.ofInt 12)) (t + 6) (s + 6) (Int32.ofInt 12)) t 7)) (t + 7) (s + 7) (Int32.ofInt 5)) (t + 8) (s + 8) (Int32.ofInt 5)) (t + 9) (s + 9) (Int32.ofInt 6)) s 11 ((z_cp (z_cp (z_cp (z_s (z_cp (z_cp (z_cp (z_cp (z_cp (z_cp (z_s S s 0 (S t 0)) (t + 1) (s + 1) (Int32.ofInt 12)) (t + 2) (s + 2) (Int32.ofInt 12)) (t + 3) (s + 3) (Int32.ofInt 12)) (t + 4) (s + 4) (Int32.ofInt 12)) (t + 5) (s + 5) (Int32.ofInt 12)) (t + 6) (s + 6) (Int32.ofInt 12)) s 7 ((z_cp (z_cp (z_cp (z_cp (z_cp (z_cp (z_s S s 0 (S t 0)) (t + 1) (s + 1) (Int32.ofInt 12)) (t + 2) (s + 2) (Int32.ofInt 12)) (t + 3) (s + 3) (Int32.ofInt 12)) (t + 4) (s + 4) (Int32.ofInt 12)) (t + 5) (s + 5) (Int32.ofInt 12)) (t + 6) (s + 6) (Int32.ofInt 12)) t 7)) (t + 7) (s + 7) (Int32.ofInt 5)) (t + 8) (s + 8) (Int32.ofInt 5)) (t + 9) (s + 9) (Int32.ofInt 6)) t 11)) t 12)) t 13), .ref (s + 1)] (z_s (z_s (z_cp (z_cp (z_cp (z_s (z_cp (z_cp (z_cp (z_cp (z_cp (z_cp (z_s S s 0 (S t 0)) (t + 1) (s + 1) (Int32.ofInt 12)) (t + 2) (s + 2) (Int32.ofInt 12)) (t + 3) (s + 3) (Int32.ofInt 12)) (t + 4) (s + 4) (Int32.ofInt 12)) (t + 5) (s + 5) (Int32.ofInt 12)) (t + 6) (s + 6) (Int32.ofInt 12)) s 7 ((z_cp (z_cp (z_cp (z_cp (z_cp (z_cp (z_s S s 0 (S t 0)) (t + 1) (s + 1) (Int32.ofInt 12)) (t + 2) (s + 2) (Int32.ofInt 12)) (t + 3) (s + 3) (Int32.ofInt 12)) (t + 4) (s + 4) (Int32.ofInt 12)) (t + 5) (s + 5) (Int32.ofInt 12)) (t + 6) (s + 6) (Int32.ofInt 12)) t 7)) (t + 7) (s + 7) (Int32.ofInt 5)) (t + 8) (s + 8) (Int32.ofInt 5)) (t + 9) (s + 9) (Int32.ofInt 6)) s 11 ((z_cp (z_cp (z_cp (z_s (z_cp (z_cp (z_cp (z_cp (z_cp (z_cp (z_s S s 0 (S t 0)) (t + 1) (s + 1) (Int32.ofInt 12)) (t + 2) (s + 2) (Int32.ofInt 12)) (t + 3) (s + 3) (Int32.ofInt 12)) (t + 4) (s + 4) (Int32.ofInt 12)) (t + 5) (s + 5) (Int32.ofInt 12)) (t + 6) (s + 6) (Int32.ofInt 12)) s 7 ((z_cp (z_cp (z_cp (z_cp (z_cp (z_cp (z_s S s 0 (S t 0)) (t + 1) (s + 1) (Int32.ofInt 12)) (t + 2) (s + 2) (Int32.ofInt 12)) (t + 3) (s + 3) (Int32.ofInt 12)) (t + 4) (s + 4) (Int32.ofInt 12)) (t + 5) (s + 5) (Int32.ofInt 12)) (t + 6) (s + 6) (Int32.ofInt 12)) t 7)) (t + 7) (s + 7) (Int32.ofInt 5)) (t + 8) (s + 8) (Int32.ofInt 5)) (t + 9) (s + 9) (Int32.ofInt 6)) t 11)) s 12 ((z_s (z_cp (z_cp (z_cp (z_s (z_cp (z_cp (z_cp (z_cp (z_cp (z_cp (z_s S s 0 (S t 0)) (t + 1) (s + 1) (Int32.ofInt 12)) (t + 2) (s + 2) (Int32.ofInt 12)) (t + 3) (s + 3) (Int32.ofInt 12)) (t + 4) (s + 4) (Int32.ofInt 12)) (t + 5) (s + 5) (Int32.ofInt 12)) (t + 6) (s + 6) (Int32.ofInt 12)) s 7 ((z_cp (z_cp (z_cp (z_cp (z_cp (z_cp (z_s S s 0 (S t 0)) (t + 1) (s + 1) (Int32.ofInt 12)) (t + 2) (s + 2) (Int32.ofInt 12)) (t + 3) (s + 3) (Int32.ofInt 12)) (t + 4) (s + 4) (Int32.ofInt 12)) (t + 5) (s + 5) (Int32.ofInt 12)) (t + 6) (s + 6) (Int32.ofInt 12)) t 7)) (t + 7) (s + 7) (Int32.ofInt 5)) (t + 8) (s + 8) (Int32.ofInt 5)) (t + 9) (s + 9) (Int32.ofInt 6)) s 11 ((z_cp (z_cp (z_cp (z_s (z_cp (z_cp (z_cp (z_cp (z_cp (z_cp (z_s S s 0 (S t 0)) (t + 1) (s + 1) (Int32.ofInt 12)) (t + 2) (s + 2) (Int32.ofInt 12)) (t + 3) (s + 3) (Int32.ofInt 12)) (t + 4) (s + 4) (Int32.ofInt 12)) (t + 5) (s + 5) (Int32.ofInt 12)) (t + 6) (s + 6) (Int32.ofInt 12)) s 7 ((z_cp (z_cp (z_cp (z_cp (z_cp (z_cp (z_s S s 0 (S t 0)) (t + 1) (s + 1) (Int32.ofInt 12)) (t + 2) (s + 2) (Int32.ofInt 12)) (t + 3) (s + 3) (Int32.ofInt 12)) (t + 4) (s + 4) (Int32.ofInt 12)) (t + 5) (s + 5) (Int32.ofInt 12)) (t + 6) (s + 6) (Int32.ofInt 12)) t 7)) (t + 7) (s + 7) (Int32.ofInt 5)) (t + 8) (s + 8) (Int32.ofInt 5)) (t + 9) (s + 9) (Int32.ofInt 6)) t 11)) t 12)) R _
  refine u_put rfl (z_st0 hs) rfl ?_
  refine u_st rfl (fun _ => rfl) ?_
  refine u_st rfl (fun _ => rfl) ?_
  show u_P L xs n d m_X7_copy 175 [(0, .ref (s + 1)), (1, .ref (t + 1))] [.ref (t + 1), .ref (s + 1)] (z_s (z_s (z_s (z_cp (z_cp (z_cp (z_s (z_cp (z_cp (z_cp (z_cp (z_cp (z_cp (z_s S s 0 (S t 0)) (t + 1) (s + 1) (Int32.ofInt 12)) (t + 2) (s + 2) (Int32.ofInt 12)) (t + 3) (s + 3) (Int32.ofInt 12)) (t + 4) (s + 4) (Int32.ofInt 12)) (t + 5) (s + 5) (Int32.ofInt 12)) (t + 6) (s + 6) (Int32.ofInt 12)) s 7 ((z_cp (z_cp (z_cp (z_cp (z_cp (z_cp (z_s S s 0 (S t 0)) (t + 1) (s + 1) (Int32.ofInt 12)) (t + 2) (s + 2) (Int32.ofInt 12)) (t + 3) (s + 3) (Int32.ofInt 12)) (t + 4) (s + 4) (Int32.ofInt 12)) (t + 5) (s + 5) (Int32.ofInt 12)) (t + 6) (s + 6) (Int32.ofInt 12)) t 7)) (t + 7) (s + 7) (Int32.ofInt 5)) (t + 8) (s + 8) (Int32.ofInt 5)) (t + 9) (s + 9) (Int32.ofInt 6)) s 11 ((z_cp (z_cp (z_cp (z_s (z_cp (z_cp (z_cp (z_cp (z_cp (z_cp (z_s S s 0 (S t 0)) (t + 1) (s + 1) (Int32.ofInt 12)) (t + 2) (s + 2) (Int32.ofInt 12)) (t + 3) (s + 3) (Int32.ofInt 12)) (t + 4) (s + 4) (Int32.ofInt 12)) (t + 5) (s + 5) (Int32.ofInt 12)) (t + 6) (s + 6) (Int32.ofInt 12)) s 7 ((z_cp (z_cp (z_cp (z_cp (z_cp (z_cp (z_s S s 0 (S t 0)) (t + 1) (s + 1) (Int32.ofInt 12)) (t + 2) (s + 2) (Int32.ofInt 12)) (t + 3) (s + 3) (Int32.ofInt 12)) (t + 4) (s + 4) (Int32.ofInt 12)) (t + 5) (s + 5) (Int32.ofInt 12)) (t + 6) (s + 6) (Int32.ofInt 12)) t 7)) (t + 7) (s + 7) (Int32.ofInt 5)) (t + 8) (s + 8) (Int32.ofInt 5)) (t + 9) (s + 9) (Int32.ofInt 6)) t 11)) s 12 ((z_s (z_cp (z_cp (z_cp (z_s (z_cp (z_cp (z_cp (z_cp (z_cp (z_cp (z_s S s 0 (S t 0)) (t + 1) (s + 1) (Int32.ofInt 12)) (t + 2) (s + 2) (Int32.ofInt 12)) (t + 3) (s + 3) (Int32.ofInt 12)) (t + 4) (s + 4) (Int32.ofInt 12)) (t + 5) (s + 5) (Int32.ofInt 12)) (t + 6) (s + 6) (Int32.ofInt 12)) s 7 ((z_cp (z_cp (z_cp (z_cp (z_cp (z_cp (z_s S s 0 (S t 0)) (t + 1) (s + 1) (Int32.ofInt 12)) (t + 2) (s + 2) (Int32.ofInt 12)) (t + 3) (s + 3) (Int32.ofInt 12)) (t + 4) (s + 4) (Int32.ofInt 12)) (t + 5) (s + 5) (Int32.ofInt 12)) (t + 6) (s + 6) (Int32.ofInt 12)) t 7)) (t + 7) (s + 7) (Int32.ofInt 5)) (t + 8) (s + 8) (Int32.ofInt 5)) (t + 9) (s + 9) (Int32.ofInt 6)) s 11 ((z_cp (z_cp (z_cp (z_s (z_cp (z_cp (z_cp (z_cp (z_cp (z_cp (z_s S s 0 (S t 0)) (t + 1) (s + 1) (Int32.ofInt 12)) (t + 2) (s + 2) (Int32.ofInt 12)) (t + 3) (s + 3) (Int32.ofInt 12)) (t + 4) (s + 4) (Int32.ofInt 12)) (t + 5) (s + 5) (Int32.ofInt 12)) (t + 6) (s + 6) (Int32.ofInt 12)) s 7 ((z_cp (z_cp (z_cp (z_cp (z_cp (z_cp (z_s S s 0 (S t 0)) (t + 1) (s + 1) (Int32.ofInt 12)) (t + 2) (s + 2) (Int32.ofInt 12)) (t + 3) (s + 3) (Int32.ofInt 12)) (t + 4) (s + 4) (Int32.ofInt 12)) (t + 5) (s + 5) (Int32.ofInt 12)) (t + 6) (s + 6) (Int32.ofInt 12)) t 7)) (t + 7) (s + 7) (Int32.ofInt 5)) (t + 8) (s + 8) (Int32.ofInt 5)) (t + 9) (s + 9) (Int32.ofInt 6)) t 11)) t 12)) s 13 ((z_s (z_s (z_cp (z_cp (z_cp (z_s (z_cp (z_cp (z_cp (z_cp (z_cp (z_cp (z_s S s 0 (S t 0)) (t + 1) (s + 1) (Int32.ofInt 12)) (t + 2) (s + 2) (Int32.ofInt 12)) (t + 3) (s + 3) (Int32.ofInt 12)) (t + 4) (s + 4) (Int32.ofInt 12)) (t + 5) (s + 5) (Int32.ofInt 12)) (t + 6) (s + 6) (Int32.ofInt 12)) s 7 ((z_cp (z_cp (z_cp (z_cp (z_cp (z_cp (z_s S s 0 (S t 0)) (t + 1) (s + 1) (Int32.ofInt 12)) (t + 2) (s + 2) (Int32.ofInt 12)) (t + 3) (s + 3) (Int32.ofInt 12)) (t + 4) (s + 4) (Int32.ofInt 12)) (t + 5) (s + 5) (Int32.ofInt 12)) (t + 6) (s + 6) (Int32.ofInt 12)) t 7)) (t + 7) (s + 7) (Int32.ofInt 5)) (t + 8) (s + 8) (Int32.ofInt 5)) (t + 9) (s + 9) (Int32.ofInt 6)) s 11 ((z_cp (z_cp (z_cp (z_s (z_cp (z_cp (z_cp (z_cp (z_cp (z_cp (z_s S s 0 (S t 0)) (t + 1) (s + 1) (Int32.ofInt 12)) (t + 2) (s + 2) (Int32.ofInt 12)) (t + 3) (s + 3) (Int32.ofInt 12)) (t + 4) (s + 4) (Int32.ofInt 12)) (t + 5) (s + 5) (Int32.ofInt 12)) (t + 6) (s + 6) (Int32.ofInt 12)) s 7 ((z_cp (z_cp (z_cp (z_cp (z_cp (z_cp (z_s S s 0 (S t 0)) (t + 1) (s + 1) (Int32.ofInt 12)) (t + 2) (s + 2) (Int32.ofInt 12)) (t + 3) (s + 3) (Int32.ofInt 12)) (t + 4) (s + 4) (Int32.ofInt 12)) (t + 5) (s + 5) (Int32.ofInt 12)) (t + 6) (s + 6) (Int32.ofInt 12)) t 7)) (t + 7) (s + 7) (Int32.ofInt 5)) (t + 8) (s + 8) (Int32.ofInt 5)) (t + 9) (s + 9) (Int32.ofInt 6)) t 11)) s 12 ((z_s (z_cp (z_cp (z_cp (z_s (z_cp (z_cp (z_cp (z_cp (z_cp (z_cp (z_s S s 0 (S t 0)) (t + 1) (s + 1) (Int32.ofInt 12)) (t + 2) (s + 2) (Int32.ofInt 12)) (t + 3) (s + 3) (Int32.ofInt 12)) (t + 4) (s + 4) (Int32.ofInt 12)) (t + 5) (s + 5) (Int32.ofInt 12)) (t + 6) (s + 6) (Int32.ofInt 12)) s 7 ((z_cp (z_cp (z_cp (z_cp (z_cp (z_cp (z_s S s 0 (S t 0)) (t + 1) (s + 1) (Int32.ofInt 12)) (t + 2) (s + 2) (Int32.ofInt 12)) (t + 3) (s + 3) (Int32.ofInt 12)) (t + 4) (s + 4) (Int32.ofInt 12)) (t + 5) (s + 5) (Int32.ofInt 12)) (t + 6) (s + 6) (Int32.ofInt 12)) t 7)) (t + 7) (s + 7) (Int32.ofInt 5)) (t + 8) (s + 8) (Int32.ofInt 5)) (t + 9) (s + 9) (Int32.ofInt 6)) s 11 ((z_cp (z_cp (z_cp (z_s (z_cp (z_cp (z_cp (z_cp (z_cp (z_cp (z_s S s 0 (S t 0)) (t + 1) (s + 1) (Int32.ofInt 12)) (t + 2) (s + 2) (Int32.ofInt 12)) (t + 3) (s + 3) (Int32.ofInt 12)) (t + 4) (s + 4) (Int32.ofInt 12)) (t + 5) (s + 5) (Int32.ofInt 12)) (t + 6) (s + 6) (Int32.ofInt 12)) s 7 ((z_cp (z_cp (z_cp (z_cp (z_cp (z_cp (z_s S s 0 (S t 0)) (t + 1) (s + 1) (Int32.ofInt 12)) (t + 2) (s + 2) (Int32.ofInt 12)) (t + 3) (s + 3) (Int32.ofInt 12)) (t + 4) (s + 4) (Int32.ofInt 12)) (t + 5) (s + 5) (Int32.ofInt 12)) (t + 6) (s + 6) (Int32.ofInt 12)) t 7)) (t + 7) (s + 7) (Int32.ofInt 5)) (t + 8) (s + 8) (Int32.ofInt 5)) (t + 9) (s + 9) (Int32.ofInt 6)) t 11)) t 12)) t 13)) R _
  refine u_getE (v := (z_s (z_s (z_s (z_cp (z_cp (z_cp (z_s (z_cp (z_cp (z_cp (z_cp (z_cp (z_cp (z_s S s 0 (S t 0)) (t + 1) (s + 1) (Int32.ofInt 12)) (t + 2) (s + 2) (Int32.ofInt 12)) (t + 3) (s + 3) (Int32.ofInt 12)) (t + 4) (s + 4) (Int32.ofInt 12)) (t + 5) (s + 5) (Int32.ofInt 12)) (t + 6) (s + 6) (Int32.ofInt 12)) s 7 ((z_cp (z_cp (z_cp (z_cp (z_cp (z_cp (z_s S s 0 (S t 0)) (t + 1) (s + 1) (Int32.ofInt 12)) (t + 2) (s + 2) (Int32.ofInt 12)) (t + 3) (s + 3) (Int32.ofInt 12)) (t + 4) (s + 4) (Int32.ofInt 12)) (t + 5) (s + 5) (Int32.ofInt 12)) (t + 6) (s + 6) (Int32.ofInt 12)) t 7)) (t + 7) (s + 7) (Int32.ofInt 5)) (t + 8) (s + 8) (Int32.ofInt 5)) (t + 9) (s + 9) (Int32.ofInt 6)) s 11 ((z_cp (z_cp (z_cp (z_s (z_cp (z_cp (z_cp (z_cp (z_cp (z_cp (z_s S s 0 (S t 0)) (t + 1) (s + 1) (Int32.ofInt 12)) (t + 2) (s + 2) (Int32.ofInt 12)) (t + 3) (s + 3) (Int32.ofInt 12)) (t + 4) (s + 4) (Int32.ofInt 12)) (t + 5) (s + 5) (Int32.ofInt 12)) (t + 6) (s + 6) (Int32.ofInt 12)) s 7 ((z_cp (z_cp (z_cp (z_cp (z_cp (z_cp (z_s S s 0 (S t 0)) (t + 1) (s + 1) (Int32.ofInt 12)) (t + 2) (s + 2) (Int32.ofInt 12)) (t + 3) (s + 3) (Int32.ofInt 12)) (t + 4) (s + 4) (Int32.ofInt 12)) (t + 5) (s + 5) (Int32.ofInt 12)) (t + 6) (s + 6) (Int32.ofInt 12)) t 7)) (t + 7) (s + 7) (Int32.ofInt 5)) (t + 8) (s + 8) (Int32.ofInt 5)) (t + 9) (s + 9) (Int32.ofInt 6)) t 11)) s 12 ((z_s (z_cp (z_cp (z_cp (z_s (z_cp (z_cp (z_cp (z_cp (z_cp (z_cp (z_s S s 0 (S t 0)) (t + 1) (s + 1) (Int32.ofInt 12)) (t + 2) (s + 2) (Int32.ofInt 12)) (t + 3) (s + 3) (Int32.ofInt 12)) (t + 4) (s + 4) (Int32.ofInt 12)) (t + 5) (s + 5) (Int32.ofInt 12)) (t + 6) (s + 6) (Int32.ofInt 12)) s 7 ((z_cp (z_cp (z_cp (z_cp (z_cp (z_cp (z_s S s 0 (S t 0)) (t + 1) (s + 1) (Int32.ofInt 12)) (t + 2) (s + 2) (Int32.ofInt 12)) (t + 3) (s + 3) (Int32.ofInt 12)) (t + 4) (s + 4) (Int32.ofInt 12)) (t + 5) (s + 5) (Int32.ofInt 12)) (t + 6) (s + 6) (Int32.ofInt 12)) t 7)) (t + 7) (s + 7) (Int32.ofInt 5)) (t + 8) (s + 8) (Int32.ofInt 5)) (t + 9) (s + 9) (Int32.ofInt 6)) s 11 ((z_cp (z_cp (z_cp (z_s (z_cp (z_cp (z_cp (z_cp (z_cp (z_cp (z_s S s 0 (S t 0)) (t + 1) (s + 1) (Int32.ofInt 12)) (t + 2) (s + 2) (Int32.ofInt 12)) (t + 3) (s + 3) (Int32.ofInt 12)) (t + 4) (s + 4) (Int32.ofInt 12)) (t + 5) (s + 5) (Int32.ofInt 12)) (t + 6) (s + 6) (Int32.ofInt 12)) s 7 ((z_cp (z_cp (z_cp (z_cp (z_cp (z_cp (z_s S s 0 (S t 0)) (t + 1) (s + 1) (Int32.ofInt 12)) (t + 2) (s + 2) (Int32.ofInt 12)) (t + 3) (s + 3) (Int32.ofInt 12)) (t + 4) (s + 4) (Int32.ofInt 12)) (t + 5) (s + 5) (Int32.ofInt 12)) (t + 6) (s + 6) (Int32.ofInt 12)) t 7)) (t + 7) (s + 7) (Int32.ofInt 5)) (t + 8) (s + 8) (Int32.ofInt 5)) (t + 9) (s + 9) (Int32.ofInt 6)) t 11)) t 12)) s 13 ((z_s (z_s (z_cp (z_cp (z_cp (z_s (z_cp (z_cp (z_cp (z_cp (z_cp (z_cp (z_s S s 0 (S t 0)) (t + 1) (s + 1) (Int32.ofInt 12)) (t + 2) (s + 2) (Int32.ofInt 12)) (t + 3) (s + 3) (Int32.ofInt 12)) (t + 4) (s + 4) (Int32.ofInt 12)) (t + 5) (s + 5) (Int32.ofInt 12)) (t + 6) (s + 6) (Int32.ofInt 12)) s 7 ((z_cp (z_cp (z_cp (z_cp (z_cp (z_cp (z_s S s 0 (S t 0)) (t + 1) (s + 1) (Int32.ofInt 12)) (t + 2) (s + 2) (Int32.ofInt 12)) (t + 3) (s + 3) (Int32.ofInt 12)) (t + 4) (s + 4) (Int32.ofInt 12)) (t + 5) (s + 5) (Int32.ofInt 12)) (t + 6) (s + 6) (Int32.ofInt 12)) t 7)) (t + 7) (s + 7) (Int32.ofInt 5)) (t + 8) (s + 8) (Int32.ofInt 5)) (t + 9) (s + 9) (Int32.ofInt 6)) s 11 ((z_cp (z_cp (z_cp (z_s (z_cp (z_cp (z_cp (z_cp (z_cp (z_cp (z_s S s 0 (S t 0)) (t + 1) (s + 1) (Int32.ofInt 12)) (t + 2) (s + 2) (Int32.ofInt 12)) (t + 3) (s + 3) (Int32.ofInt 12)) (t + 4) (s + 4) (Int32.ofInt 12)) (t + 5) (s + 5) (Int32.ofInt 12)) (t + 6) (s + 6) (Int32.ofInt 12)) s 7 ((z_cp (z_cp (z_cp (z_cp (z_cp (z_cp (z_s S s 0 (S t 0)) (t + 1) (s + 1) (Int32.ofInt 12)) (t + 2) (s + 2) (Int32.ofInt 12)) (t + 3) (s + 3) (Int32.ofInt 12)) (t + 4) (s + 4) (Int32.ofInt 12)) (t + 5) (s + 5) (Int32.ofInt 12)) (t + 6) (s + 6) (Int32.ofInt 12)) t 7)) (t + 7) (s + 7) (Int32.ofInt 5)) (t + 8) (s + 8) (Int32.ofInt 5)) (t + 9) (s + 9) (Int32.ofInt 6)) t 11)) s 12 ((z_s (z_cp (z_cp (z_cp (z_s (z_cp (z_cp (z_cp (z_cp (z_cp (z_cp (z_s S s 0 (S t 0)) (t + 1) (s + 1) (Int32.ofInt 12)) (t + 2) (s + 2) (Int32.ofInt 12)) (t + 3) (s + 3) (Int32.ofInt 12)) (t + 4) (s + 4) (Int32.ofInt 12)) (t + 5) (s + 5) (Int32.ofInt 12)) (t + 6) (s + 6) (Int32.ofInt 12)) s 7 ((z_cp (z_cp (z_cp (z_cp (z_cp (z_cp (z_s S s 0 (S t 0)) (t + 1) (s + 1) (Int32.ofInt 12)) (t + 2) (s + 2) (Int32.ofInt 12)) (t + 3) (s + 3) (Int32.ofInt 12)) (t + 4) (s + 4) (Int32.ofInt 12)) (t + 5) (s + 5) (Int32.ofInt 12)) (t + 6) (s + 6) (Int32.ofInt 12)) t 7)) (t + 7) (s + 7) (Int32.ofInt 5)) (t + 8) (s + 8) (Int32.ofInt 5)) (t + 9) (s + 9) (Int32.ofInt 6)) s 11 ((z_cp (z_cp (z_cp (z_s (z_cp (z_cp (z_cp (z_cp (z_cp (z_cp (z_s S s 0 (S t 0)) (t + 1) (s + 1) (Int32.ofInt 12)) (t + 2) (s + 2) (Int32.ofInt 12)) (t + 3) (s + 3) (Int32.ofInt 12)) (t + 4) (s + 4) (Int32.ofInt 12)) (t + 5) (s + 5) (Int32.ofInt 12)) (t + 6) (s + 6) (Int32.ofInt 12)) s 7 ((z_cp (z_cp (z_cp (z_cp (z_cp (z_cp (z_s S s 0 (S t 0)) (t + 1) (s + 1) (Int32.ofInt 12)) (t + 2) (s + 2) (Int32.ofInt 12)) (t + 3) (s + 3) (Int32.ofInt 12)) (t + 4) (s + 4) (Int32.ofInt 12)) (t + 5) (s + 5) (Int32.ofInt 12)) (t + 6) (s + 6) (Int32.ofInt 12)) t 7)) (t + 7) (s + 7) (Int32.ofInt 5)) (t + 8) (s + 8) (Int32.ofInt 5)) (t + 9) (s + 9) (Int32.ofInt 6)) t 11)) t 12)) t 13)) t 14) rfl (z_st0 ht) rfl rfl ?_
  show u_P L xs n d m_X7_copy 178 [(0, .ref (s + 1)), (1, .ref (t + 1))] [.int ((z_s (z_s (z_s (z_cp (z_cp (z_cp (z_s (z_cp (z_cp (z_cp (z_cp (z_cp (z_cp (z_s S s 0 (S t 0)) (t + 1) (s + 1) (Int32.ofInt 12)) (t + 2) (s + 2) (Int32.ofInt 12)) (t + 3) (s + 3) (Int32.ofInt 12)) (t + 4) (s + 4) (Int32.ofInt 12)) (t + 5) (s + 5) (Int32.ofInt 12)) (t + 6) (s + 6) (Int32.ofInt 12)) s 7 ((z_cp (z_cp (z_cp (z_cp (z_cp (z_cp (z_s S s 0 (S t 0)) (t + 1) (s + 1) (Int32.ofInt 12)) (t + 2) (s + 2) (Int32.ofInt 12)) (t + 3) (s + 3) (Int32.ofInt 12)) (t + 4) (s + 4) (Int32.ofInt 12)) (t + 5) (s + 5) (Int32.ofInt 12)) (t + 6) (s + 6) (Int32.ofInt 12)) t 7)) (t + 7) (s + 7) (Int32.ofInt 5)) (t + 8) (s + 8) (Int32.ofInt 5)) (t + 9) (s + 9) (Int32.ofInt 6)) s 11 ((z_cp (z_cp (z_cp (z_s (z_cp (z_cp (z_cp (z_cp (z_cp (z_cp (z_s S s 0 (S t 0)) (t + 1) (s + 1) (Int32.ofInt 12)) (t + 2) (s + 2) (Int32.ofInt 12)) (t + 3) (s + 3) (Int32.ofInt 12)) (t + 4) (s + 4) (Int32.ofInt 12)) (t + 5) (s + 5) (Int32.ofInt 12)) (t + 6) (s + 6) (Int32.ofInt 12)) s 7 ((z_cp (z_cp (z_cp (z_cp (z_cp (z_cp (z_s S s 0 (S t 0)) (t + 1) (s + 1) (Int32.ofInt 12)) (t + 2) (s + 2) (Int32.ofInt 12)) (t + 3) (s + 3) (Int32.ofInt 12)) (t + 4) (s + 4) (Int32.ofInt 12)) (t + 5) (s + 5) (Int32.ofInt 12)) (t + 6) (s + 6) (Int32.ofInt 12)) t 7)) (t + 7) (s + 7) (Int32.ofInt 5)) (t + 8) (s + 8) (Int32.ofInt 5)) (t + 9) (s + 9) (Int32.ofInt 6)) t 11)) s 12 ((z_s (z_cp (z_cp (z_cp (z_s (z_cp (z_cp (z_cp (z_cp (z_cp (z_cp (z_s S s 0 (S t 0)) (t + 1) (s + 1) (Int32.ofInt 12)) (t + 2) (s + 2) (Int32.ofInt 12)) (t + 3) (s + 3) (Int32.ofInt 12)) (t + 4) (s + 4) (Int32.ofInt 12)) (t + 5) (s + 5) (Int32.ofInt 12)) (t + 6) (s + 6) (Int32.ofInt 12)) s 7 ((z_cp (z_cp (z_cp (z_cp (z_cp (z_cp (z_s S s 0 (S t 0)) (t + 1) (s + 1) (Int32.ofInt 12)) (t + 2) (s + 2) (Int32.ofInt 12)) (t + 3) (s + 3) (Int32.ofInt 12)) (t + 4) (s + 4) (Int32.ofInt 12)) (t + 5) (s + 5) (Int32.ofInt 12)) (t + 6) (s + 6) (Int32.ofInt 12)) t 7)) (t + 7) (s + 7) (Int32.ofInt 5)) (t + 8) (s + 8) (Int32.ofInt 5)) (t + 9) (s + 9) (Int32.ofInt 6)) s 11 ((z_cp (z_cp (z_cp (z_s (z_cp (z_cp (z_cp (z_cp (z_cp (z_cp (z_s S s 0 (S t 0)) (t + 1) (s + 1) (Int32.ofInt 12)) (t + 2) (s + 2) (Int32.ofInt 12)) (t + 3) (s + 3) (Int32.ofInt 12)) (t + 4) (s + 4) (Int32.ofInt 12)) (t + 5) (s + 5) (Int32.ofInt 12)) (t + 6) (s + 6) (Int32.ofInt 12)) s 7 ((z_cp (z_cp (z_cp (z_cp (z_cp (z_cp (z_s S s 0 (S t 0)) (t + 1) (s + 1) (Int32.ofInt 12)) (t + 2) (s + 2) (Int32.ofInt 12)) (t + 3) (s + 3) (Int32.ofInt 12)) (t + 4) (s + 4) (Int32.ofInt 12)) (t + 5) (s + 5) (Int32.ofInt 12)) (t + 6) (s + 6) (Int32.ofInt 12)) t 7)) (t + 7) (s + 7) (Int32.ofInt 5)) (t + 8) (s + 8) (Int32.ofInt 5)) (t + 9) (s + 9) (Int32.ofInt 6)) t 11)) t 12)) s 13 ((z_s (z_s (z_cp (z_cp (z_cp (z_s (z_cp (z_cp (z_cp (z_cp (z_cp (z_cp (z_s S s 0 (S t 0)) (t + 1) (s + 1) (Int32.ofInt 12)) (t + 2) (s + 2) (Int32.ofInt 12)) (t + 3) (s + 3) (Int32.ofInt 12)) (t + 4) (s + 4) (Int32.ofInt 12)) (t + 5) (s + 5) (Int32.ofInt 12)) (t + 6) (s + 6) (Int32.ofInt 12)) s 7 ((z_cp (z_cp (z_cp (z_cp (z_cp (z_cp (z_s S s 0 (S t 0)) (t + 1) (s + 1) (Int32.ofInt 12)) (t + 2) (s + 2) (Int32.ofInt 12)) (t + 3) (s + 3) (Int32.ofInt 12)) (t + 4) (s + 4) (Int32.ofInt 12)) (t + 5) (s + 5) (Int32.ofInt 12)) (t + 6) (s + 6) (Int32.ofInt 12)) t 7)) (t + 7) (s + 7) (Int32.ofInt 5)) (t + 8) (s + 8) (Int32.ofInt 5)) (t + 9) (s + 9) (Int32.ofInt 6)) s 11 ((z_cp (z_cp (z_cp (z_s (z_cp (z_cp (z_cp (z_cp (z_cp (z_cp (z_s S s 0 (S t 0)) (t + 1) (s + 1) (Int32.ofInt 12)) (t + 2) (s + 2) (Int32.ofInt 12)) (t + 3) (s + 3) (Int32.ofInt 12)) (t + 4) (s + 4) (Int32.ofInt 12)) (t + 5) (s + 5) (Int32.ofInt 12)) (t + 6) (s + 6) (Int32.ofInt 12)) s 7 ((z_cp (z_cp (z_cp (z_cp (z_cp (z_cp (z_s S s 0 (S t 0)) (t + 1) (s + 1) (Int32.ofInt 12)) (t + 2) (s + 2) (Int32.ofInt 12)) (t + 3) (s + 3) (Int32.ofInt 12)) (t + 4) (s + 4) (Int32.ofInt 12)) (t + 5) (s + 5) (Int32.ofInt 12)) (t + 6) (s + 6) (Int32.ofInt 12)) t 7)) (t + 7) (s + 7) (Int32.ofInt 5)) (t + 8) (s + 8) (Int32.ofInt 5)) (t + 9) (s + 9) (Int32.ofInt 6)) t 11)) s 12 ((z_s (z_cp (z_cp (z_cp (z_s (z_cp (z_cp (z_cp (z_cp (z_cp (z_cp (z_s S s 0 (S t 0)) (t + 1) (s + 1) (Int32.ofInt 12)) (t + 2) (s + 2) (Int32.ofInt 12)) (t + 3) (s + 3) (Int32.ofInt 12)) (t + 4) (s + 4) (Int32.ofInt 12)) (t + 5) (s + 5) (Int32.ofInt 12)) (t + 6) (s + 6) (Int32.ofInt 12)) s 7 ((z_cp (z_cp (z_cp (z_cp (z_cp (z_cp (z_s S s 0 (S t 0)) (t + 1) (s + 1) (Int32.ofInt 12)) (t + 2) (s + 2) (Int32.ofInt 12)) (t + 3) (s + 3) (Int32.ofInt 12)) (t + 4) (s + 4) (Int32.ofInt 12)) (t + 5) (s + 5) (Int32.ofInt 12)) (t + 6) (s + 6) (Int32.ofInt 12)) t 7)) (t + 7) (s + 7) (Int32.ofInt 5)) (t + 8) (s + 8) (Int32.ofInt 5)) (t + 9) (s + 9) (Int32.ofInt 6)) s 11 ((z_cp (z_cp (z_cp (z_s (z_cp (z_cp (z_cp (z_cp (z_cp (z_cp (z_s S s 0 (S t 0)) (t + 1) (s + 1) (Int32.ofInt 12)) (t + 2) (s + 2) (Int32.ofInt 12)) (t + 3) (s + 3) (Int32.ofInt 12)) (t + 4) (s + 4) (Int32.ofInt 12)) (t + 5) (s + 5) (Int32.ofInt 12)) (t + 6) (s + 6) (Int32.ofInt 12)) s 7 ((z_cp (z_cp (z_cp (z_cp (z_cp (z_cp (z_s S s 0 (S t 0)) (t + 1) (s + 1) (Int32.ofInt 12)) (t + 2) (s + 2) (Int32.ofInt 12)) (t + 3) (s + 3) (Int32.ofInt 12)) (t + 4) (s + 4) (Int32.ofInt 12)) (t + 5) (s + 5) (Int32.ofInt 12)) (t + 6) (s + 6) (Int32.ofInt 12)) t 7)) (t + 7) (s + 7) (Int32.ofInt 5)) (t + 8) (s + 8) (Int32.ofInt 5)) (t + 9) (s + 9) (Int32.ofInt 6)) t 11)) t 12)) t 13)) t 14), .ref (s + 1)] (z_s (z_s (z_s (z_cp (z_cp (z_cp (z_s (z_cp (z_cp (z_cp (z_cp (z_cp (z_cp (z_s S s 0 (S t 0)) (t + 1) (s + 1) (Int32.ofInt 12)) (t + 2) (s + 2) (Int32.ofInt 12)) (t + 3) (s + 3) (Int32.ofInt 12)) (t + 4) (s + 4) (Int32.ofInt 12)) (t + 5) (s + 5) (Int32.ofInt 12)) (t + 6) (s + 6) (Int32.ofInt 12)) s 7 ((z_cp (z_cp (z_cp (z_cp (z_cp (z_cp (z_s S s 0 (S t 0)) (t + 1) (s + 1) (Int32.ofInt 12)) (t + 2) (s + 2) (Int32.ofInt 12)) (t + 3) (s + 3) (Int32.ofInt 12)) (t + 4) (s + 4) (Int32.ofInt 12)) (t + 5) (s + 5) (Int32.ofInt 12)) (t + 6) (s + 6) (Int32.ofInt 12)) t 7)) (t + 7) (s + 7) (Int32.ofInt 5)) (t + 8) (s + 8) (Int32.ofInt 5)) (t + 9) (s + 9) (Int32.ofInt 6)) s 11 ((z_cp (z_cp (z_cp (z_s (z_cp (z_cp (z_cp (z_cp (z_cp (z_cp (z_s S s 0 (S t 0)) (t + 1) (s + 1) (Int32.ofInt 12)) (t + 2) (s + 2) (Int32.ofInt 12)) (t + 3) (s + 3) (Int32.ofInt 12)) (t + 4) (s + 4) (Int32.ofInt 12)) (t + 5) (s + 5) (Int32.ofInt 12)) (t + 6) (s + 6) (Int32.ofInt 12)) s 7 ((z_cp (z_cp (z_cp (z_cp (z_cp (z_cp (z_s S s 0 (S t 0)) (t + 1) (s + 1) (Int32.ofInt 12)) (t + 2) (s + 2) (Int32.ofInt 12)) (t + 3) (s + 3) (Int32.ofInt 12)) (t + 4) (s + 4) (Int32.ofInt 12)) (t + 5) (s + 5) (Int32.ofInt 12)) (t + 6) (s + 6) (Int32.ofInt 12)) t 7)) (t + 7) (s + 7) (Int32.ofInt 5)) (t + 8) (s + 8) (Int32.ofInt 5)) (t + 9) (s + 9) (Int32.ofInt 6)) t 11)) s 12 ((z_s (z_cp (z_cp (z_cp (z_s (z_cp (z_cp (z_cp (z_cp (z_cp (z_cp (z_s S s 0 (S t 0)) (t + 1) (s + 1) (Int32.ofInt 12)) (t + 2) (s + 2) (Int32.ofInt 12)) (t + 3) (s + 3) (Int32.ofInt 12)) (t + 4) (s + 4) (Int32.ofInt 12)) (t + 5) (s + 5) (Int32.ofInt 12)) (t + 6) (s + 6) (Int32.ofInt 12)) s 7 ((z_cp (z_cp (z_cp (z_cp (z_cp (z_cp (z_s S s 0 (S t 0)) (t + 1) (s + 1) (Int32.ofInt 12)) (t + 2) (s + 2) (Int32.ofInt 12)) (t + 3) (s + 3) (Int32.ofInt 12)) (t + 4) (s + 4) (Int32.ofInt 12)) (t + 5) (s + 5) (Int32.ofInt 12)) (t + 6) (s + 6) (Int32.ofInt 12)) t 7)) (t + 7) (s + 7) (Int32.ofInt 5)) (t + 8) (s + 8) (Int32.ofInt 5)) (t + 9) (s + 9) (Int32.ofInt 6)) s 11 ((z_cp (z_cp (z_cp (z_s (z_cp (z_cp (z_cp (z_cp (z_cp (z_cp (z_s S s 0 (S t 0)) (t + 1) (s + 1) (Int32.ofInt 12)) (t + 2) (s + 2) (Int32.ofInt 12)) (t + 3) (s + 3) (Int32.ofInt 12)) (t + 4) (s + 4) (Int32.ofInt 12)) (t + 5) (s + 5) (Int32.ofInt 12)) (t + 6) (s + 6) (Int32.ofInt 12)) s 7 ((z_cp (z_cp (z_cp (z_cp (z_cp (z_cp (z_s S s 0 (S t 0)) (t + 1) (s + 1) (Int32.ofInt 12)) (t + 2) (s + 2) (Int32.ofInt 12)) (t + 3) (s + 3) (Int32.ofInt 12)) (t + 4) (s + 4) (Int32.ofInt 12)) (t + 5) (s + 5) (Int32.ofInt 12)) (t + 6) (s + 6) (Int32.ofInt 12)) t 7)) (t + 7) (s + 7) (Int32.ofInt 5)) (t + 8) (s + 8) (Int32.ofInt 5)) (t + 9) (s + 9) (Int32.ofInt 6)) t 11)) t 12)) s 13 ((z_s (z_s (z_cp (z_cp (z_cp (z_s (z_cp (z_cp (z_cp (z_cp (z_cp (z_cp (z_s S s 0 (S t 0)) (t + 1) (s + 1) (Int32.ofInt 12)) (t + 2) (s + 2) (Int32.ofInt 12)) (t + 3) (s + 3) (Int32.ofInt 12)) (t + 4) (s + 4) (Int32.ofInt 12)) (t + 5) (s + 5) (Int32.ofInt 12)) (t + 6) (s + 6) (Int32.ofInt 12)) s 7 ((z_cp (z_cp (z_cp (z_cp (z_cp (z_cp (z_s S s 0 (S t 0)) (t + 1) (s + 1) (Int32.ofInt 12)) (t + 2) (s + 2) (Int32.ofInt 12)) (t + 3) (s + 3) (Int32.ofInt 12)) (t + 4) (s + 4) (Int32.ofInt 12)) (t + 5) (s + 5) (Int32.ofInt 12)) (t + 6) (s + 6) (Int32.ofInt 12)) t 7)) (t + 7) (s + 7) (Int32.ofInt 5)) (t + 8) (s + 8) (Int32.ofInt 5)) (t + 9) (s + 9) (Int32.ofInt 6)) s 11 ((z_cp (z_cp (z_cp (z_s (z_cp (z_cp (z_cp (z_cp (z_cp (z_cp (z_s S s 0 (S t 0)) (t + 1) (s + 1) (Int32.ofInt 12)) (t + 2) (s + 2) (Int32.ofInt 12)) (t + 3) (s + 3) (Int32.ofInt 12)) (t + 4) (s + 4) (Int32.ofInt 12)) (t + 5) (s + 5) (Int32.ofInt 12)) (t + 6) (s + 6) (Int32.ofInt 12)) s 7 ((z_cp (z_cp (z_cp (z_cp (z_cp (z_cp (z_s S s 0 (S t 0)) (t + 1) (s + 1) (Int32.ofInt 12)) (t + 2) (s + 2) (Int32.ofInt 12)) (t + 3) (s + 3) (Int32.ofInt 12)) (t + 4) (s + 4) (Int32.ofInt 12)) (t + 5) (s + 5) (Int32.ofInt 12)) (t + 6) (s + 6) (Int32.ofInt 12)) t 7)) (t + 7) (s + 7) (Int32.ofInt 5)) (t + 8) (s + 8) (Int32.ofInt 5)) (t + 9) (s + 9) (Int32.ofInt 6)) t 11)) s 12 ((z_s (z_cp (z_cp (z_cp (z_s (z_cp (z_cp (z_cp (z_cp (z_cp (z_cp (z_s S s 0 (S t 0)) (t + 1) (s + 1) (Int32.ofInt 12)) (t + 2) (s + 2) (Int32.ofInt 12)) (t + 3) (s + 3) (Int32.ofInt 12)) (t + 4) (s + 4) (Int32.ofInt 12)) (t + 5) (s + 5) (Int32.ofInt 12)) (t + 6) (s + 6) (Int32.ofInt 12)) s 7 ((z_cp (z_cp (z_cp (z_cp (z_cp (z_cp (z_s S s 0 (S t 0)) (t + 1) (s + 1) (Int32.ofInt 12)) (t + 2) (s + 2) (Int32.ofInt 12)) (t + 3) (s + 3) (Int32.ofInt 12)) (t + 4) (s + 4) (Int32.ofInt 12)) (t + 5) (s + 5) (Int32.ofInt 12)) (t + 6) (s + 6) (Int32.ofInt 12)) t 7)) (t + 7) (s + 7) (Int32.ofInt 5)) (t + 8) (s + 8) (Int32.ofInt 5)) (t + 9) (s + 9) (Int32.ofInt 6)) s 11 ((z_cp (z_cp (z_cp (z_s (z_cp (z_cp (z_cp (z_cp (z_cp (z_cp (z_s S s 0 (S t 0)) (t + 1) (s + 1) (Int32.ofInt 12)) (t + 2) (s + 2) (Int32.ofInt 12)) (t + 3) (s + 3) (Int32.ofInt 12)) (t + 4) (s + 4) (Int32.ofInt 12)) (t + 5) (s + 5) (Int32.ofInt 12)) (t + 6) (s + 6) (Int32.ofInt 12)) s 7 ((z_cp (z_cp (z_cp (z_cp (z_cp (z_cp (z_s S s 0 (S t 0)) (t + 1) (s + 1) (Int32.ofInt 12)) (t + 2) (s + 2) (Int32.ofInt 12)) (t + 3) (s + 3) (Int32.ofInt 12)) (t + 4) (s + 4) (Int32.ofInt 12)) (t + 5) (s + 5) (Int32.ofInt 12)) (t + 6) (s + 6) (Int32.ofInt 12)) t 7)) (t + 7) (s + 7) (Int32.ofInt 5)) (t + 8) (s + 8) (Int32.ofInt 5)) (t + 9) (s + 9) (Int32.ofInt 6)) t 11)) t 12)) t 13)) R _
  refine u_put rfl (z_st0 hs) rfl ?_
  show u_P L xs n d m_X7_copy 181 [(0, .ref (s + 1)), (1, .ref (t + 1))] [] (z_s (z_s (z_s (z_s (z_cp (z_cp (z_cp (z_s (z_cp (z_cp (z_cp (z_cp (z_cp (z_cp (z_s S s 0 (S t 0)) (t + 1) (s + 1) (Int32.ofInt 12)) (t + 2) (s + 2) (Int32.ofInt 12)) (t + 3) (s + 3) (Int32.ofInt 12)) (t + 4) (s + 4) (Int32.ofInt 12)) (t + 5) (s + 5) (Int32.ofInt 12)) (t + 6) (s + 6) (Int32.ofInt 12)) s 7 ((z_cp (z_cp (z_cp (z_cp (z_cp (z_cp (z_s S s 0 (S t 0)) (t + 1) (s + 1) (Int32.ofInt 12)) (t + 2) (s + 2) (Int32.ofInt 12)) (t + 3) (s + 3) (Int32.ofInt 12)) (t + 4) (s + 4) (Int32.ofInt 12)) (t + 5) (s + 5) (Int32.ofInt 12)) (t + 6) (s + 6) (Int32.ofInt 12)) t 7)) (t + 7) (s + 7) (Int32.ofInt 5)) (t + 8) (s + 8) (Int32.ofInt 5)) (t + 9) (s + 9) (Int32.ofInt 6)) s 11 ((z_cp (z_cp (z_cp (z_s (z_cp (z_cp (z_cp (z_cp (z_cp (z_cp (z_s S s 0 (S t 0)) (t + 1) (s + 1) (Int32.ofInt 12)) (t + 2) (s + 2) (Int32.ofInt 12)) (t + 3) (s + 3) (Int32.ofInt 12)) (t + 4) (s + 4) (Int32.ofInt 12)) (t + 5) (s + 5) (Int32.ofInt 12)) (t + 6) (s + 6) (Int32.ofInt 12)) s 7 ((z_cp (z_cp (z_cp (z_cp (z_cp (z_cp (z_s S s 0 (S t 0)) (t + 1) (s + 1) (Int32.ofInt 12)) (t + 2) (s + 2) (Int32.ofInt 12)) (t + 3) (s + 3) (Int32.ofInt 12)) (t + 4) (s + 4) (Int32.ofInt 12)) (t + 5) (s + 5) (Int32.ofInt 12)) (t + 6) (s + 6) (Int32.ofInt 12)) t 7)) (t + 7) (s + 7) (Int32.ofInt 5)) (t + 8) (s + 8) (Int32.ofInt 5)) (t + 9) (s + 9) (Int32.ofInt 6)) t 11)) s 12 ((z_s (z_cp (z_cp (z_cp (z_s (z_cp (z_cp (z_cp (z_cp (z_cp (z_cp (z_s S s 0 (S t 0)) (t + 1) (s + 1) (Int32.ofInt 12)) (t + 2) (s + 2) (Int32.ofInt 12)) (t + 3) (s + 3) (Int32.ofInt 12)) (t + 4) (s + 4) (Int32.ofInt 12)) (t + 5) (s + 5) (Int32.ofInt 12)) (t + 6) (s + 6) (Int32.ofInt 12)) s 7 ((z_cp (z_cp (z_cp (z_cp (z_cp (z_cp (z_s S s 0 (S t 0)) (t + 1) (s + 1) (Int32.ofInt 12)) (t + 2) (s + 2) (Int32.ofInt 12)) (t + 3) (s + 3) (Int32.ofInt 12)) (t + 4) (s + 4) (Int32.ofInt 12)) (t + 5) (s + 5) (Int32.ofInt 12)) (t + 6) (s + 6) (Int32.ofInt 12)) t 7)) (t + 7) (s + 7) (Int32.ofInt 5)) (t + 8) (s + 8) (Int32.ofInt 5)) (t + 9) (s + 9) (Int32.ofInt 6)) s 11 ((z_cp (z_cp (z_cp (z_s (z_cp (z_cp (z_cp (z_cp (z_cp (z_cp (z_s S s 0 (S t 0)) (t + 1) (s + 1) (Int32.ofInt 12)) (t + 2) (s + 2) (Int32.ofInt 12)) (t + 3) (s + 3) (Int32.ofInt 12)) (t + 4) (s + 4) (Int32.ofInt 12)) (t + 5) (s + 5) (Int32.ofInt 12)) (t + 6) (s + 6) (Int32.ofInt 12)) s 7 ((z_cp (z_cp (z_cp (z_cp (z_cp (z_cp (z_s S s 0 (S t 0)) (t + 1) (s + 1) (Int32.ofInt 12)) (t + 2) (s + 2) (Int32.ofInt 12)) (t + 3) (s + 3) (Int32.ofInt 12)) (t + 4) (s + 4) (Int32.ofInt 12)) (t + 5) (s + 5) (Int32.ofInt 12)) (t + 6) (s + 6) (Int32.ofInt 12)) t 7)) (t + 7) (s + 7) (Int32.ofInt 5)) (t + 8) (s + 8) (Int32.ofInt 5)) (t + 9) (s + 9) (Int32.ofInt 6)) t 11)) t 12)) s 13 ((z_s (z_s (z_cp (z_cp (z_cp (z_s (z_cp (z_cp (z_cp (z_cp (z_cp (z_cp (z_s S s 0 (S t 0)) (t + 1) (s + 1) (Int32.ofInt 12)) (t + 2) (s + 2) (Int32.ofInt 12)) (t + 3) (s + 3) (Int32.ofInt 12)) (t + 4) (s + 4) (Int32.ofInt 12)) (t + 5) (s + 5) (Int32.ofInt 12)) (t + 6) (s + 6) (Int32.ofInt 12)) s 7 ((z_cp (z_cp (z_cp (z_cp (z_cp (z_cp (z_s S s 0 (S t 0)) (t + 1) (s + 1) (Int32.ofInt 12)) (t + 2) (s + 2) (Int32.ofInt 12)) (t + 3) (s + 3) (Int32.ofInt 12)) (t + 4) (s + 4) (Int32.ofInt 12)) (t + 5) (s + 5) (Int32.ofInt 12)) (t + 6) (s + 6) (Int32.ofInt 12)) t 7)) (t + 7) (s + 7) (Int32.ofInt 5)) (t + 8) (s + 8) (Int32.ofInt 5)) (t + 9) (s + 9) (Int32.ofInt 6)) s 11 ((z_cp (z_cp (z_cp (z_s (z_cp (z_cp (z_cp (z_cp (z_cp (z_cp (z_s S s 0 (S t 0)) (t + 1) (s + 1) (Int32.ofInt 12)) (t + 2) (s + 2) (Int32.ofInt 12)) (t + 3) (s + 3) (Int32.ofInt 12)) (t + 4) (s + 4) (Int32.ofInt 12)) (t + 5) (s + 5) (Int32.ofInt 12)) (t + 6) (s + 6) (Int32.ofInt 12)) s 7 ((z_cp (z_cp (z_cp (z_cp (z_cp (z_cp (z_s S s 0 (S t 0)) (t + 1) (s + 1) (Int32.ofInt 12)) (t + 2) (s + 2) (Int32.ofInt 12)) (t + 3) (s + 3) (Int32.ofInt 12)) (t + 4) (s + 4) (Int32.ofInt 12)) (t + 5) (s + 5) (Int32.ofInt 12)) (t + 6) (s + 6) (Int32.ofInt 12)) t 7)) (t + 7) (s + 7) (Int32.ofInt 5)) (t + 8) (s + 8) (Int32.ofInt 5)) (t + 9) (s + 9) (Int32.ofInt 6)) t 11)) s 12 ((z_s (z_cp (z_cp (z_cp (z_s (z_cp (z_cp (z_cp (z_cp (z_cp (z_cp (z_s S s 0 (S t 0)) (t + 1) (s + 1) (Int32.ofInt 12)) (t + 2) (s + 2) (Int32.ofInt 12)) (t + 3) (s + 3) (Int32.ofInt 12)) (t + 4) (s + 4) (Int32.ofInt 12)) (t + 5) (s + 5) (Int32.ofInt 12)) (t + 6) (s + 6) (Int32.ofInt 12)) s 7 ((z_cp (z_cp (z_cp (z_cp (z_cp (z_cp (z_s S s 0 (S t 0)) (t + 1) (s + 1) (Int32.ofInt 12)) (t + 2) (s + 2) (Int32.ofInt 12)) (t + 3) (s + 3) (Int32.ofInt 12)) (t + 4) (s + 4) (Int32.ofInt 12)) (t + 5) (s + 5) (Int32.ofInt 12)) (t + 6) (s + 6) (Int32.ofInt 12)) t 7)) (t + 7) (s + 7) (Int32.ofInt 5)) (t + 8) (s + 8) (Int32.ofInt 5)) (t + 9) (s + 9) (Int32.ofInt 6)) s 11 ((z_cp (z_cp (z_cp (z_s (z_cp (z_cp (z_cp (z_cp (z_cp (z_cp (z_s S s 0 (S t 0)) (t + 1) (s + 1) (Int32.ofInt 12)) (t + 2) (s + 2) (Int32.ofInt 12)) (t + 3) (s + 3) (Int32.ofInt 12)) (t + 4) (s + 4) (Int32.ofInt 12)) (t + 5) (s + 5) (Int32.ofInt 12)) (t + 6) (s + 6) (Int32.ofInt 12)) s 7 ((z_cp (z_cp (z_cp (z_cp (z_cp (z_cp (z_s S s 0 (S t 0)) (t + 1) (s + 1) (Int32.ofInt 12)) (t + 2) (s + 2) (Int32.ofInt 12)) (t + 3) (s + 3) (Int32.ofInt 12)) (t + 4) (s + 4) (Int32.ofInt 12)) (t + 5) (s + 5) (Int32.ofInt 12)) (t + 6) (s + 6) (Int32.ofInt 12)) t 7)) (t + 7) (s + 7) (Int32.ofInt 5)) (t + 8) (s + 8) (Int32.ofInt 5)) (t + 9) (s + 9) (Int32.ofInt 6)) t 11)) t 12)) t 13)) s 14 ((z_s (z_s (z_s (z_cp (z_cp (z_cp (z_s (z_cp (z_cp (z_cp (z_cp (z_cp (z_cp (z_s S s 0 (S t 0)) (t + 1) (s + 1) (Int32.ofInt 12)) (t + 2) (s + 2) (Int32.ofInt 12)) (t + 3) (s + 3) (Int32.ofInt 12)) (t + 4) (s + 4) (Int32.ofInt 12)) (t + 5) (s + 5) (Int32.ofInt 12)) (t + 6) (s + 6) (Int32.ofInt 12)) s 7 ((z_cp (z_cp (z_cp (z_cp (z_cp (z_cp (z_s S s 0 (S t 0)) (t + 1) (s + 1) (Int32.ofInt 12)) (t + 2) (s + 2) (Int32.ofInt 12)) (t + 3) (s + 3) (Int32.ofInt 12)) (t + 4) (s + 4) (Int32.ofInt 12)) (t + 5) (s + 5) (Int32.ofInt 12)) (t + 6) (s + 6) (Int32.ofInt 12)) t 7)) (t + 7) (s + 7) (Int32.ofInt 5)) (t + 8) (s + 8) (Int32.ofInt 5)) (t + 9) (s + 9) (Int32.ofInt 6)) s 11 ((z_cp (z_cp (z_cp (z_s (z_cp (z_cp (z_cp (z_cp (z_cp (z_cp (z_s S s 0 (S t 0)) (t + 1) (s + 1) (Int32.ofInt 12)) (t + 2) (s + 2) (Int32.ofInt 12)) (t + 3) (s + 3) (Int32.ofInt 12)) (t + 4) (s + 4) (Int32.ofInt 12)) (t + 5) (s + 5) (Int32.ofInt 12)) (t + 6) (s + 6) (Int32.ofInt 12)) s 7 ((z_cp (z_cp (z_cp (z_cp (z_cp (z_cp (z_s S s 0 (S t 0)) (t + 1) (s + 1) (Int32.ofInt 12)) (t + 2) (s + 2) (Int32.ofInt 12)) (t + 3) (s + 3) (Int32.ofInt 12)) (t + 4) (s + 4) (Int32.ofInt 12)) (t + 5) (s + 5) (Int32.ofInt 12)) (t + 6) (s + 6) (Int32.ofInt 12)) t 7)) (t + 7) (s + 7) (Int32.ofInt 5)) (t + 8) (s + 8) (Int32.ofInt 5)) (t + 9) (s + 9) (Int32.ofInt 6)) t 11)) s 12 ((z_s (z_cp (z_cp (z_cp (z_s (z_cp (z_cp (z_cp (z_cp (z_cp (z_cp (z_s S s 0 (S t 0)) (t + 1) (s + 1) (Int32.ofInt 12)) (t + 2) (s + 2) (Int32.ofInt 12)) (t + 3) (s + 3) (Int32.ofInt 12)) (t + 4) (s + 4) (Int32.ofInt 12)) (t + 5) (s + 5) (Int32.ofInt 12)) (t + 6) (s + 6) (Int32.ofInt 12)) s 7 ((z_cp (z_cp (z_cp (z_cp (z_cp (z_cp (z_s S s 0 (S t 0)) (t + 1) (s + 1) (Int32.ofInt 12)) (t + 2) (s + 2) (Int32.ofInt 12)) (t + 3) (s + 3) (Int32.ofInt 12)) (t + 4) (s + 4) (Int32.ofInt 12)) (t + 5) (s + 5) (Int32.ofInt 12)) (t + 6) (s + 6) (Int32.ofInt 12)) t 7)) (t + 7) (s + 7) (Int32.ofInt 5)) (t + 8) (s + 8) (Int32.ofInt 5)) (t + 9) (s + 9) (Int32.ofInt 6)) s 11 ((z_cp (z_cp (z_cp (z_s (z_cp (z_cp (z_cp (z_cp (z_cp (z_cp (z_s S s 0 (S t 0)) (t + 1) (s + 1) (Int32.ofInt 12)) (t + 2) (s + 2) (Int32.ofInt 12)) (t + 3) (s + 3) (Int32.ofInt 12)) (t + 4) (s + 4) (Int32.ofInt 12)) (t + 5) (s + 5) (Int32.ofInt 12)) (t + 6) (s + 6) (Int32.ofInt 12)) s 7 ((z_cp (z_cp (z_cp (z_cp (z_cp (z_cp (z_s S s 0 (S t 0)) (t + 1) (s + 1) (Int32.ofInt 12)) (t + 2) (s + 2) (Int32.ofInt 12)) (t + 3) (s + 3) (Int32.ofInt 12)) (t + 4) (s + 4) (Int32.ofInt 12)) (t + 5) (s + 5) (Int32.ofInt 12)) (t + 6) (s + 6) (Int32.ofInt 12)) t 7)) (t + 7) (s + 7) (Int32.ofInt 5)) (t + 8) (s + 8) (Int32.ofInt 5)) (t + 9) (s + 9) (Int32.ofInt 6)) t 11)) t 12)) s 13 ((z_s (z_s (z_cp (z_cp (z_cp (z_s (z_cp (z_cp (z_cp (z_cp (z_cp (z_cp (z_s S s 0 (S t 0)) (t + 1) (s + 1) (Int32.ofInt 12)) (t + 2) (s + 2) (Int32.ofInt 12)) (t + 3) (s + 3) (Int32.ofInt 12)) (t + 4) (s + 4) (Int32.ofInt 12)) (t + 5) (s + 5) (Int32.ofInt 12)) (t + 6) (s + 6) (Int32.ofInt 12)) s 7 ((z_cp (z_cp (z_cp (z_cp (z_cp (z_cp (z_s S s 0 (S t 0)) (t + 1) (s + 1) (Int32.ofInt 12)) (t + 2) (s + 2) (Int32.ofInt 12)) (t + 3) (s + 3) (Int32.ofInt 12)) (t + 4) (s + 4) (Int32.ofInt 12)) (t + 5) (s + 5) (Int32.ofInt 12)) (t + 6) (s + 6) (Int32.ofInt 12)) t 7)) (t + 7) (s + 7) (Int32.ofInt 5)) (t + 8) (s + 8) (Int32.ofInt 5)) (t + 9) (s + 9) (Int32.ofInt 6)) s 11 ((z_cp (z_cp (z_cp (z_s (z_cp (z_cp (z_cp (z_cp (z_cp (z_cp (z_s S s 0 (S t 0)) (t + 1) (s + 1) (Int32.ofInt 12)) (t + 2) (s + 2) (Int32.ofInt 12)) (t + 3) (s + 3) (Int32.ofInt 12)) (t + 4) (s + 4) (Int32.ofInt 12)) (t + 5) (s + 5) (Int32.ofInt 12)) (t + 6) (s + 6) (Int32.ofInt 12)) s 7 ((z_cp (z_cp (z_cp (z_cp (z_cp (z_cp (z_s S s 0 (S t 0)) (t + 1) (s + 1) (Int32.ofInt 12)) (t + 2) (s + 2) (Int32.ofInt 12)) (t + 3) (s + 3) (Int32.ofInt 12)) (t + 4) (s + 4) (Int32.ofInt 12)) (t + 5) (s + 5) (Int32.ofInt 12)) (t + 6) (s + 6) (Int32.ofInt 12)) t 7)) (t + 7) (s + 7) (Int32.ofInt 5)) (t + 8) (s + 8) (Int32.ofInt 5)) (t + 9) (s + 9) (Int32.ofInt 6)) t 11)) s 12 ((z_s (z_cp (z_cp (z_cp (z_s (z_cp (z_cp (z_cp (z_cp (z_cp (z_cp (z_s S s 0 (S t 0)) (t + 1) (s + 1) (Int32.ofInt 12)) (t + 2) (s + 2) (Int32.ofInt 12)) (t + 3) (s + 3) (Int32.ofInt 12)) (t + 4) (s + 4) (Int32.ofInt 12)) (t + 5) (s + 5) (Int32.ofInt 12)) (t + 6) (s + 6) (Int32.ofInt 12)) s 7 ((z_cp (z_cp (z_cp (z_cp (z_cp (z_cp (z_s S s 0 (S t 0)) (t + 1) (s + 1) (Int32.ofInt 12)) (t + 2) (s + 2) (Int32.ofInt 12)) (t + 3) (s + 3) (Int32.ofInt 12)) (t + 4) (s + 4) (Int32.ofInt 12)) (t + 5) (s + 5) (Int32.ofInt 12)) (t + 6) (s + 6) (Int32.ofInt 12)) t 7)) (t + 7) (s + 7) (Int32.ofInt 5)) (t + 8) (s + 8) (Int32.ofInt 5)) (t + 9) (s + 9) (Int32.ofInt 6)) s 11 ((z_cp (z_cp (z_cp (z_s (z_cp (z_cp (z_cp (z_cp (z_cp (z_cp (z_s S s 0 (S t 0)) (t + 1) (s + 1) (Int32.ofInt 12)) (t + 2) (s + 2) (Int32.ofInt 12)) (t + 3) (s + 3) (Int32.ofInt 12)) (t + 4) (s + 4) (Int32.ofInt 12)) (t + 5) (s + 5) (Int32.ofInt 12)) (t + 6) (s + 6) (Int32.ofInt 12)) s 7 ((z_cp (z_cp (z_cp (z_cp (z_cp (z_cp (z_s S s 0 (S t 0)) (t + 1) (s + 1) (Int32.ofInt 12)) (t + 2) (s + 2) (Int32.ofInt 12)) (t + 3) (s + 3) (Int32.ofInt 12)) (t + 4) (s + 4) (Int32.ofInt 12)) (t + 5) (s + 5) (Int32.ofInt 12)) (t + 6) (s + 6) (Int32.ofInt 12)) t 7)) (t + 7) (s + 7) (Int32.ofInt 5)) (t + 8) (s + 8) (Int32.ofInt 5)) (t + 9) (s + 9) (Int32.ofInt 6)) t 11)) t 12)) t 13)) t 14)) R _
  exact u_ret rfl rfl ⟨rfl, rfl, rfl⟩
noncomputable abbrev m_X11_seed : g_M := (g_cn 11, yX11_seed, cX11_seed, 2, (some .boolean), g_look2 ttX11_seed)
set_option maxRecDepth 20000 in
theorem mt_X11_seed : g_mt 121 = some m_X11_seed := rfl
noncomputable def f_X11_seed (x : Int32) (S : v_Sf) : Int32 := (if ¬ (f_X11_within x (Int32.ofInt 65535)) = 0 then Int32.ofInt 1 else Int32.ofInt 0)
noncomputable def g_X11_seed (x : Int32) (S : v_Sf) : v_Sf := (if ¬ (f_X11_within x (Int32.ofInt 65535)) = 0 then z_s S 1 14 x else S)
set_option maxRecDepth 4000 in
theorem c_X11_seed (L : Nat) (xs : Nat → Int32) (n d : Nat) (x : Int32) (S : v_Sf) (R : v_Rf) : u_P L xs n d m_X11_seed 0 (lv_args 0 [.ref 1, .int x]) [] S R (z_Q R (fun v S1 => f_X11_seed x S = v ∧ g_X11_seed x S = S1)) := by
  show u_P L xs n d m_X11_seed 0 [(0, .ref 1), (1, .int x)] [] S R _
  refine u_st rfl (fun _ => rfl) ?_
  refine u_st rfl (fun _ => rfl) ?_
  show u_P L xs n d m_X11_seed 3 [(0, .ref 1), (1, .int x)] [.int (Int32.ofInt 65535), .int x] S R _
  refine u_cs (ac := [.int x, .int (Int32.ofInt 65535)]) (rest := []) rfl (by decide) mt_X11_within (fun _ => rfl) (Nat.le_of_ble_eq_true rfl) (Nat.le_of_ble_eq_true rfl) (fun d' => c_X11_within L xs n d' x (Int32.ofInt 65535) S R) ?_
  rintro _ _ _ ⟨_, rfl, rfl, rfl, rfl⟩
  show u_P L xs n d m_X11_seed 6 [(0, .ref 1), (1, .int x)] [.int (f_X11_within x (Int32.ofInt 65535))] S R _
  refine u_if_ne rfl (fun h1 => ?_) (fun h1 => ?_)
  · show u_P L xs n d m_X11_seed 11 [(0, .ref 1), (1, .int x)] [] S R _
    refine u_st rfl (fun _ => rfl) ?_
    show u_P L xs n d m_X11_seed 12 [(0, .ref 1), (1, .int x)] [.ref 1] S R _
    refine u_getr rfl v_tyC rfl ?_
    refine u_st rfl (fun _ => rfl) ?_
    show u_P L xs n d m_X11_seed 16 [(0, .ref 1), (1, .int x)] [.int x, .ref 2] S R _
    refine u_put rfl rfl rfl ?_
    refine u_st rfl (fun _ => rfl) ?_
    show u_P L xs n d m_X11_seed 20 [(0, .ref 1), (1, .int x)] [.int (Int32.ofInt 1)] (z_s S 1 14 x) R _
    exact u_retb rfl rfl ⟨_, rfl, rfl, by rw [f_X11_seed, if_pos h1], by rw [g_X11_seed, if_pos h1]⟩
  · show u_P L xs n d m_X11_seed 9 [(0, .ref 1), (1, .int x)] [] S R _
    refine u_st rfl (fun _ => rfl) ?_
    show u_P L xs n d m_X11_seed 10 [(0, .ref 1), (1, .int x)] [.int (Int32.ofInt 0)] S R _
    exact u_retb rfl rfl ⟨_, rfl, rfl, by rw [f_X11_seed, if_neg h1], by rw [g_X11_seed, if_neg h1]⟩
noncomputable abbrev m_X11_gust : g_M := (g_cn 11, yX11_gust, cX11_gust, 7, (some .boolean), g_look2 ttX11_gust)
set_option maxRecDepth 20000 in
theorem mt_X11_gust : g_mt 111 = some m_X11_gust := rfl
noncomputable def f_X11_gust (g : Int32) (a : Int32) (b : Int32) (w : Int32) (l : Int32) (S : v_Sf) : Int32 := (if (f_X11_within g (Int32.ofInt 11)) = 0 then Int32.ofInt 0 else (if (f_X11_within a (Int32.ofInt 99)) = 0 then Int32.ofInt 0 else (if (f_X11_within b (Int32.ofInt 9)) = 0 then Int32.ofInt 0 else (if (f_X11_within w (Int32.ofInt 5)) = 0 then Int32.ofInt 0 else (if (f_X11_within l (Int32.ofInt 9)) = 0 then Int32.ofInt 0 else Int32.ofInt 1)))))
noncomputable def g_X11_gust (g : Int32) (a : Int32) (b : Int32) (w : Int32) (l : Int32) (S : v_Sf) : v_Sf := (if (f_X11_within g (Int32.ofInt 11)) = 0 then S else (if (f_X11_within a (Int32.ofInt 99)) = 0 then S else (if (f_X11_within b (Int32.ofInt 9)) = 0 then S else (if (f_X11_within w (Int32.ofInt 5)) = 0 then S else (if (f_X11_within l (Int32.ofInt 9)) = 0 then S else z_s (z_s (z_s (z_s (z_s (z_s (z_s S 1 0 ((S 1 0) ||| ((Int32.ofInt 1) <<< (g &&& 31)))) 2 g.toInt.toNat a) 4 g.toInt.toNat b) 5 g.toInt.toNat w) 6 g.toInt.toNat l) 3 g.toInt.toNat (Int32.ofInt 8)) 7 g.toInt.toNat (Int32.ofInt 0))))))
set_option maxRecDepth 4000 in
theorem c_X11_gust (L : Nat) (xs : Nat → Int32) (n d : Nat) (g : Int32) (a : Int32) (b : Int32) (w : Int32) (l : Int32) (S : v_Sf) (R : v_Rf) : u_P L xs n d m_X11_gust 0 (lv_args 0 [.ref 1, .int g, .int a, .int b, .int w, .int l]) [] S R (z_Q R (fun v S1 => f_X11_gust g a b w l S = v ∧ g_X11_gust g a b w l S = S1)) := by
  show u_P L xs n d m_X11_gust 0 [(0, .ref 1), (1, .int g), (2, .int a), (3, .int b), (4, .int w), (5, .int l)] [] S R _
  refine u_st rfl (fun _ => rfl) ?_
  refine u_st rfl (fun _ => rfl) ?_
  show u_P L xs n d m_X11_gust 3 [(0, .ref 1), (1, .int g), (2, .int a), (3, .int b), (4, .int w), (5, .int l)] [.int (Int32.ofInt 11), .int g] S R _
  refine u_cs (ac := [.int g, .int (Int32.ofInt 11)]) (rest := []) rfl (by decide) mt_X11_within (fun _ => rfl) (Nat.le_of_ble_eq_true rfl) (Nat.le_of_ble_eq_true rfl) (fun d' => c_X11_within L xs n d' g (Int32.ofInt 11) S R) ?_
  rintro _ _ _ ⟨_, rfl, rfl, rfl, rfl⟩
  show u_P L xs n d m_X11_gust 6 [(0, .ref 1), (1, .int g), (2, .int a), (3, .int b), (4, .int w), (5, .int l)] [.int (f_X11_within g (Int32.ofInt 11))] S R _
  refine u_if_eq rfl (fun h1 => ?_) (fun h1 => ?_)
  · show u_P L xs n d m_X11_gust 50 [(0, .ref 1), (1, .int g), (2, .int a), (3, .int b), (4, .int w), (5, .int l)] [] S R _
    refine u_st rfl (fun _ => rfl) ?_
    refine u_st rfl (fun _ => rfl) ?_
    refine u_st rfl (fun _ => rfl) ?_
    show u_P L xs n d m_X11_gust 55 [(6, .int (Int32.ofInt 0)), (0, .ref 1), (1, .int g), (2, .int a), (3, .int b), (4, .int w), (5, .int l)] [.int (Int32.ofInt 0)] S R _
    refine u_st rfl (fun _ => rfl) ?_
    refine u_st rfl (fun _ => rfl) ?_
    show u_P L xs n d m_X11_gust 59 [(6, .int (Int32.ofInt 0)), (0, .ref 1), (1, .int g), (2, .int a), (3, .int b), (4, .int w), (5, .int l)] [.int (Int32.ofInt 0)] S R _
    exact u_retb rfl rfl ⟨_, rfl, rfl, by rw [f_X11_gust, if_pos h1], by rw [g_X11_gust, if_pos h1]⟩
  · show u_P L xs n d m_X11_gust 9 [(0, .ref 1), (1, .int g), (2, .int a), (3, .int b), (4, .int w), (5, .int l)] [] S R _
    refine u_st rfl (fun _ => rfl) ?_
    refine u_st rfl (fun _ => rfl) ?_
    show u_P L xs n d m_X11_gust 12 [(0, .ref 1), (1, .int g), (2, .int a), (3, .int b), (4, .int w), (5, .int l)] [.int (Int32.ofInt 99), .int a] S R _
    refine u_cs (ac := [.int a, .int (Int32.ofInt 99)]) (rest := []) rfl (by decide) mt_X11_within (fun _ => rfl) (Nat.le_of_ble_eq_true rfl) (Nat.le_of_ble_eq_true rfl) (fun d' => c_X11_within L xs n d' a (Int32.ofInt 99) S R) ?_
    rintro _ _ _ ⟨_, rfl, rfl, rfl, rfl⟩
    show u_P L xs n d m_X11_gust 15 [(0, .ref 1), (1, .int g), (2, .int a), (3, .int b), (4, .int w), (5, .int l)] [.int (f_X11_within a (Int32.ofInt 99))] S R _
    refine u_if_eq rfl (fun h2 => ?_) (fun h2 => ?_)
    · show u_P L xs n d m_X11_gust 50 [(0, .ref 1), (1, .int g), (2, .int a), (3, .int b), (4, .int w), (5, .int l)] [] S R _
      refine u_st rfl (fun _ => rfl) ?_
      refine u_st rfl (fun _ => rfl) ?_
      refine u_st rfl (fun _ => rfl) ?_
      show u_P L xs n d m_X11_gust 55 [(6, .int (Int32.ofInt 0)), (0, .ref 1), (1, .int g), (2, .int a), (3, .int b), (4, .int w), (5, .int l)] [.int (Int32.ofInt 0)] S R _
      refine u_st rfl (fun _ => rfl) ?_
      refine u_st rfl (fun _ => rfl) ?_
      show u_P L xs n d m_X11_gust 59 [(6, .int (Int32.ofInt 0)), (0, .ref 1), (1, .int g), (2, .int a), (3, .int b), (4, .int w), (5, .int l)] [.int (Int32.ofInt 0)] S R _
      exact u_retb rfl rfl ⟨_, rfl, rfl, by rw [f_X11_gust, if_neg h1, if_pos h2], by rw [g_X11_gust, if_neg h1, if_pos h2]⟩
    · show u_P L xs n d m_X11_gust 18 [(0, .ref 1), (1, .int g), (2, .int a), (3, .int b), (4, .int w), (5, .int l)] [] S R _
      refine u_st rfl (fun _ => rfl) ?_
      refine u_st rfl (fun _ => rfl) ?_
      show u_P L xs n d m_X11_gust 21 [(0, .ref 1), (1, .int g), (2, .int a), (3, .int b), (4, .int w), (5, .int l)] [.int (Int32.ofInt 9), .int b] S R _
      refine u_cs (ac := [.int b, .int (Int32.ofInt 9)]) (rest := []) rfl (by decide) mt_X11_within (fun _ => rfl) (Nat.le_of_ble_eq_true rfl) (Nat.le_of_ble_eq_true rfl) (fun d' => c_X11_within L xs n d' b (Int32.ofInt 9) S R) ?_
      rintro _ _ _ ⟨_, rfl, rfl, rfl, rfl⟩
      show u_P L xs n d m_X11_gust 24 [(0, .ref 1), (1, .int g), (2, .int a), (3, .int b), (4, .int w), (5, .int l)] [.int (f_X11_within b (Int32.ofInt 9))] S R _
      refine u_if_eq rfl (fun h3 => ?_) (fun h3 => ?_)
      · show u_P L xs n d m_X11_gust 50 [(0, .ref 1), (1, .int g), (2, .int a), (3, .int b), (4, .int w), (5, .int l)] [] S R _
        refine u_st rfl (fun _ => rfl) ?_
        refine u_st rfl (fun _ => rfl) ?_
        refine u_st rfl (fun _ => rfl) ?_
        show u_P L xs n d m_X11_gust 55 [(6, .int (Int32.ofInt 0)), (0, .ref 1), (1, .int g), (2, .int a), (3, .int b), (4, .int w), (5, .int l)] [.int (Int32.ofInt 0)] S R _
        refine u_st rfl (fun _ => rfl) ?_
        refine u_st rfl (fun _ => rfl) ?_
        show u_P L xs n d m_X11_gust 59 [(6, .int (Int32.ofInt 0)), (0, .ref 1), (1, .int g), (2, .int a), (3, .int b), (4, .int w), (5, .int l)] [.int (Int32.ofInt 0)] S R _
        exact u_retb rfl rfl ⟨_, rfl, rfl, by rw [f_X11_gust, if_neg h1, if_neg h2, if_pos h3], by rw [g_X11_gust, if_neg h1, if_neg h2, if_pos h3]⟩
      · show u_P L xs n d m_X11_gust 27 [(0, .ref 1), (1, .int g), (2, .int a), (3, .int b), (4, .int w), (5, .int l)] [] S R _
        refine u_st rfl (fun _ => rfl) ?_
        refine u_st rfl (fun _ => rfl) ?_
        show u_P L xs n d m_X11_gust 30 [(0, .ref 1), (1, .int g), (2, .int a), (3, .int b), (4, .int w), (5, .int l)] [.int (Int32.ofInt 5), .int w] S R _
        refine u_cs (ac := [.int w, .int (Int32.ofInt 5)]) (rest := []) rfl (by decide) mt_X11_within (fun _ => rfl) (Nat.le_of_ble_eq_true rfl) (Nat.le_of_ble_eq_true rfl) (fun d' => c_X11_within L xs n d' w (Int32.ofInt 5) S R) ?_
        rintro _ _ _ ⟨_, rfl, rfl, rfl, rfl⟩
        show u_P L xs n d m_X11_gust 33 [(0, .ref 1), (1, .int g), (2, .int a), (3, .int b), (4, .int w), (5, .int l)] [.int (f_X11_within w (Int32.ofInt 5))] S R _
        refine u_if_eq rfl (fun h4 => ?_) (fun h4 => ?_)
        · show u_P L xs n d m_X11_gust 50 [(0, .ref 1), (1, .int g), (2, .int a), (3, .int b), (4, .int w), (5, .int l)] [] S R _
          refine u_st rfl (fun _ => rfl) ?_
          refine u_st rfl (fun _ => rfl) ?_
          refine u_st rfl (fun _ => rfl) ?_
          show u_P L xs n d m_X11_gust 55 [(6, .int (Int32.ofInt 0)), (0, .ref 1), (1, .int g), (2, .int a), (3, .int b), (4, .int w), (5, .int l)] [.int (Int32.ofInt 0)] S R _
          refine u_st rfl (fun _ => rfl) ?_
          refine u_st rfl (fun _ => rfl) ?_
          show u_P L xs n d m_X11_gust 59 [(6, .int (Int32.ofInt 0)), (0, .ref 1), (1, .int g), (2, .int a), (3, .int b), (4, .int w), (5, .int l)] [.int (Int32.ofInt 0)] S R _
          exact u_retb rfl rfl ⟨_, rfl, rfl, by rw [f_X11_gust, if_neg h1, if_neg h2, if_neg h3, if_pos h4], by rw [g_X11_gust, if_neg h1, if_neg h2, if_neg h3, if_pos h4]⟩
        · show u_P L xs n d m_X11_gust 36 [(0, .ref 1), (1, .int g), (2, .int a), (3, .int b), (4, .int w), (5, .int l)] [] S R _
          refine u_st rfl (fun _ => rfl) ?_
          refine u_st rfl (fun _ => rfl) ?_
          show u_P L xs n d m_X11_gust 40 [(0, .ref 1), (1, .int g), (2, .int a), (3, .int b), (4, .int w), (5, .int l)] [.int (Int32.ofInt 9), .int l] S R _
          refine u_cs (ac := [.int l, .int (Int32.ofInt 9)]) (rest := []) rfl (by decide) mt_X11_within (fun _ => rfl) (Nat.le_of_ble_eq_true rfl) (Nat.le_of_ble_eq_true rfl) (fun d' => c_X11_within L xs n d' l (Int32.ofInt 9) S R) ?_
          rintro _ _ _ ⟨_, rfl, rfl, rfl, rfl⟩
          show u_P L xs n d m_X11_gust 43 [(0, .ref 1), (1, .int g), (2, .int a), (3, .int b), (4, .int w), (5, .int l)] [.int (f_X11_within l (Int32.ofInt 9))] S R _
          refine u_if_eq rfl (fun h5 => ?_) (fun h5 => ?_)
          · show u_P L xs n d m_X11_gust 50 [(0, .ref 1), (1, .int g), (2, .int a), (3, .int b), (4, .int w), (5, .int l)] [] S R _
            refine u_st rfl (fun _ => rfl) ?_
            refine u_st rfl (fun _ => rfl) ?_
            refine u_st rfl (fun _ => rfl) ?_
            show u_P L xs n d m_X11_gust 55 [(6, .int (Int32.ofInt 0)), (0, .ref 1), (1, .int g), (2, .int a), (3, .int b), (4, .int w), (5, .int l)] [.int (Int32.ofInt 0)] S R _
            refine u_st rfl (fun _ => rfl) ?_
            refine u_st rfl (fun _ => rfl) ?_
            show u_P L xs n d m_X11_gust 59 [(6, .int (Int32.ofInt 0)), (0, .ref 1), (1, .int g), (2, .int a), (3, .int b), (4, .int w), (5, .int l)] [.int (Int32.ofInt 0)] S R _
            exact u_retb rfl rfl ⟨_, rfl, rfl, by rw [f_X11_gust, if_neg h1, if_neg h2, if_neg h3, if_neg h4, if_pos h5], by rw [g_X11_gust, if_neg h1, if_neg h2, if_neg h3, if_neg h4, if_pos h5]⟩
          · show u_P L xs n d m_X11_gust 46 [(0, .ref 1), (1, .int g), (2, .int a), (3, .int b), (4, .int w), (5, .int l)] [] S R _
            refine u_st rfl (fun _ => rfl) ?_
            refine u_st rfl (fun _ => rfl) ?_
            refine u_st rfl (fun _ => rfl) ?_
            refine u_st rfl (fun _ => rfl) ?_
            show u_P L xs n d m_X11_gust 55 [(6, .int (Int32.ofInt 1)), (0, .ref 1), (1, .int g), (2, .int a), (3, .int b), (4, .int w), (5, .int l)] [.int (Int32.ofInt 1)] S R _
            refine u_st rfl (fun _ => rfl) ?_
            refine u_st rfl (fun _ => rfl) ?_
            show u_P L xs n d m_X11_gust 61 [(6, .int (Int32.ofInt 1)), (0, .ref 1), (1, .int g), (2, .int a), (3, .int b), (4, .int w), (5, .int l)] [.ref 1] S R _
            refine u_getr rfl v_tyC rfl ?_
            refine u_st rfl (fun _ => rfl) ?_
            show u_P L xs n d m_X11_gust 65 [(6, .int (Int32.ofInt 1)), (0, .ref 1), (1, .int g), (2, .int a), (3, .int b), (4, .int w), (5, .int l)] [.ref 2, .ref 2] S R _
            refine u_getE (v := S 1 0) rfl rfl rfl rfl ?_
            refine u_st rfl (fun _ => rfl) ?_
            refine u_st rfl (fun _ => rfl) ?_
            refine u_st rfl (fun _ => rfl) ?_
            refine u_st rfl (fun _ => rfl) ?_
            show u_P L xs n d m_X11_gust 72 [(6, .int (Int32.ofInt 1)), (0, .ref 1), (1, .int g), (2, .int a), (3, .int b), (4, .int w), (5, .int l)] [.int ((S 1 0) ||| ((Int32.ofInt 1) <<< (g &&& 31))), .ref 2] S R _
            refine u_put rfl rfl rfl ?_
            refine u_st rfl (fun _ => rfl) ?_
            show u_P L xs n d m_X11_gust 76 [(6, .int (Int32.ofInt 1)), (0, .ref 1), (1, .int g), (2, .int a), (3, .int b), (4, .int w), (5, .int l)] [.ref 1] (z_s S 1 0 ((S 1 0) ||| ((Int32.ofInt 1) <<< (g &&& 31)))) R _
            refine u_getr rfl v_tyC rfl ?_
            show u_P L xs n d m_X11_gust 79 [(6, .int (Int32.ofInt 1)), (0, .ref 1), (1, .int g), (2, .int a), (3, .int b), (4, .int w), (5, .int l)] [.ref 2] (z_s S 1 0 ((S 1 0) ||| ((Int32.ofInt 1) <<< (g &&& 31)))) R _
            refine u_getr rfl rfl rfl ?_
            refine u_st rfl (fun _ => rfl) ?_
            refine u_st rfl (fun _ => rfl) ?_
            show u_P L xs n d m_X11_gust 84 [(6, .int (Int32.ofInt 1)), (0, .ref 1), (1, .int g), (2, .int a), (3, .int b), (4, .int w), (5, .int l)] [.int a, .int g, .ref 3] (z_s S 1 0 ((S 1 0) ||| ((Int32.ofInt 1) <<< (g &&& 31)))) R _
            refine u_iast rfl rfl (fun b61 b62 => ?_)
            refine u_st rfl (fun _ => rfl) ?_
            show u_P L xs n d m_X11_gust 86 [(6, .int (Int32.ofInt 1)), (0, .ref 1), (1, .int g), (2, .int a), (3, .int b), (4, .int w), (5, .int l)] [.ref 1] (z_s (z_s S 1 0 ((S 1 0) ||| ((Int32.ofInt 1) <<< (g &&& 31)))) 2 g.toInt.toNat a) R _
            refine u_getr rfl v_tyC rfl ?_
            show u_P L xs n d m_X11_gust 89 [(6, .int (Int32.ofInt 1)), (0, .ref 1), (1, .int g), (2, .int a), (3, .int b), (4, .int w), (5, .int l)] [.ref 2] (z_s (z_s S 1 0 ((S 1 0) ||| ((Int32.ofInt 1) <<< (g &&& 31)))) 2 g.toInt.toNat a) R _
            refine u_getr rfl rfl rfl ?_
            refine u_st rfl (fun _ => rfl) ?_
            refine u_st rfl (fun _ => rfl) ?_
            show u_P L xs n d m_X11_gust 94 [(6, .int (Int32.ofInt 1)), (0, .ref 1), (1, .int g), (2, .int a), (3, .int b), (4, .int w), (5, .int l)] [.int b, .int g, .ref 5] (z_s (z_s S 1 0 ((S 1 0) ||| ((Int32.ofInt 1) <<< (g &&& 31)))) 2 g.toInt.toNat a) R _
            refine u_iast rfl rfl (fun b71 b72 => ?_)
            refine u_st rfl (fun _ => rfl) ?_
            show u_P L xs n d m_X11_gust 96 [(6, .int (Int32.ofInt 1)), (0, .ref 1), (1, .int g), (2, .int a), (3, .int b), (4, .int w), (5, .int l)] [.ref 1] (z_s (z_s (z_s S 1 0 ((S 1 0) ||| ((Int32.ofInt 1) <<< (g &&& 31)))) 2 g.toInt.toNat a) 4 g.toInt.toNat b) R _
            refine u_getr rfl v_tyC rfl ?_
            show u_P L xs n d m_X11_gust 99 [(6, .int (Int32.ofInt 1)), (0, .ref 1), (1, .int g), (2, .int a), (3, .int b), (4, .int w), (5, .int l)] [.ref 2] (z_s (z_s (z_s S 1 0 ((S 1 0) ||| ((Int32.ofInt 1) <<< (g &&& 31)))) 2 g.toInt.toNat a) 4 g.toInt.toNat b) R _
            refine u_getr rfl rfl rfl ?_
            refine u_st rfl (fun _ => rfl) ?_
            refine u_st rfl (fun _ => rfl) ?_
            show u_P L xs n d m_X11_gust 105 [(6, .int (Int32.ofInt 1)), (0, .ref 1), (1, .int g), (2, .int a), (3, .int b), (4, .int w), (5, .int l)] [.int w, .int g, .ref 6] (z_s (z_s (z_s S 1 0 ((S 1 0) ||| ((Int32.ofInt 1) <<< (g &&& 31)))) 2 g.toInt.toNat a) 4 g.toInt.toNat b) R _
            refine u_iast rfl rfl (fun b81 b82 => ?_)
            refine u_st rfl (fun _ => rfl) ?_
            show u_P L xs n d m_X11_gust 107 [(6, .int (Int32.ofInt 1)), (0, .ref 1), (1, .int g), (2, .int a), (3, .int b), (4, .int w), (5, .int l)] [.ref 1] (z_s (z_s (z_s (z_s S 1 0 ((S 1 0) ||| ((Int32.ofInt 1) <<< (g &&& 31)))) 2 g.toInt.toNat a) 4 g.toInt.toNat b) 5 g.toInt.toNat w) R _
            refine u_getr rfl v_tyC rfl ?_
            show u_P L xs n d m_X11_gust 110 [(6, .int (Int32.ofInt 1)), (0, .ref 1), (1, .int g), (2, .int a), (3, .int b), (4, .int w), (5, .int l)] [.ref 2] (z_s (z_s (z_s (z_s S 1 0 ((S 1 0) ||| ((Int32.ofInt 1) <<< (g &&& 31)))) 2 g.toInt.toNat a) 4 g.toInt.toNat b) 5 g.toInt.toNat w) R _
            refine u_getr rfl rfl rfl ?_
            refine u_st rfl (fun _ => rfl) ?_
            refine u_st rfl (fun _ => rfl) ?_
            show u_P L xs n d m_X11_gust 116 [(6, .int (Int32.ofInt 1)), (0, .ref 1), (1, .int g), (2, .int a), (3, .int b), (4, .int w), (5, .int l)] [.int l, .int g, .ref 7] (z_s (z_s (z_s (z_s S 1 0 ((S 1 0) ||| ((Int32.ofInt 1) <<< (g &&& 31)))) 2 g.toInt.toNat a) 4 g.toInt.toNat b) 5 g.toInt.toNat w) R _
            refine u_iast rfl rfl (fun b91 b92 => ?_)
            refine u_st rfl (fun _ => rfl) ?_
            show u_P L xs n d m_X11_gust 118 [(6, .int (Int32.ofInt 1)), (0, .ref 1), (1, .int g), (2, .int a), (3, .int b), (4, .int w), (5, .int l)] [.ref 1] (z_s (z_s (z_s (z_s (z_s S 1 0 ((S 1 0) ||| ((Int32.ofInt 1) <<< (g &&& 31)))) 2 g.toInt.toNat a) 4 g.toInt.toNat b) 5 g.toInt.toNat w) 6 g.toInt.toNat l) R _
            refine u_getr rfl v_tyC rfl ?_
            show u_P L xs n d m_X11_gust 121 [(6, .int (Int32.ofInt 1)), (0, .ref 1), (1, .int g), (2, .int a), (3, .int b), (4, .int w), (5, .int l)] [.ref 2] (z_s (z_s (z_s (z_s (z_s S 1 0 ((S 1 0) ||| ((Int32.ofInt 1) <<< (g &&& 31)))) 2 g.toInt.toNat a) 4 g.toInt.toNat b) 5 g.toInt.toNat w) 6 g.toInt.toNat l) R _
            refine u_getr rfl rfl rfl ?_
            refine u_st rfl (fun _ => rfl) ?_
            refine u_st rfl (fun _ => rfl) ?_
            show u_P L xs n d m_X11_gust 127 [(6, .int (Int32.ofInt 1)), (0, .ref 1), (1, .int g), (2, .int a), (3, .int b), (4, .int w), (5, .int l)] [.int (Int32.ofInt 8), .int g, .ref 4] (z_s (z_s (z_s (z_s (z_s S 1 0 ((S 1 0) ||| ((Int32.ofInt 1) <<< (g &&& 31)))) 2 g.toInt.toNat a) 4 g.toInt.toNat b) 5 g.toInt.toNat w) 6 g.toInt.toNat l) R _
            refine u_iast rfl rfl (fun b101 b102 => ?_)
            refine u_st rfl (fun _ => rfl) ?_
            show u_P L xs n d m_X11_gust 129 [(6, .int (Int32.ofInt 1)), (0, .ref 1), (1, .int g), (2, .int a), (3, .int b), (4, .int w), (5, .int l)] [.ref 1] (z_s (z_s (z_s (z_s (z_s (z_s S 1 0 ((S 1 0) ||| ((Int32.ofInt 1) <<< (g &&& 31)))) 2 g.toInt.toNat a) 4 g.toInt.toNat b) 5 g.toInt.toNat w) 6 g.toInt.toNat l) 3 g.toInt.toNat (Int32.ofInt 8)) R _
            refine u_getr rfl v_tyC rfl ?_
            show u_P L xs n d m_X11_gust 132 [(6, .int (Int32.ofInt 1)), (0, .ref 1), (1, .int g), (2, .int a), (3, .int b), (4, .int w), (5, .int l)] [.ref 2] (z_s (z_s (z_s (z_s (z_s (z_s S 1 0 ((S 1 0) ||| ((Int32.ofInt 1) <<< (g &&& 31)))) 2 g.toInt.toNat a) 4 g.toInt.toNat b) 5 g.toInt.toNat w) 6 g.toInt.toNat l) 3 g.toInt.toNat (Int32.ofInt 8)) R _
            refine u_getr rfl rfl rfl ?_
            refine u_st rfl (fun _ => rfl) ?_
            refine u_st rfl (fun _ => rfl) ?_
            show u_P L xs n d m_X11_gust 137 [(6, .int (Int32.ofInt 1)), (0, .ref 1), (1, .int g), (2, .int a), (3, .int b), (4, .int w), (5, .int l)] [.int (Int32.ofInt 0), .int g, .ref 8] (z_s (z_s (z_s (z_s (z_s (z_s S 1 0 ((S 1 0) ||| ((Int32.ofInt 1) <<< (g &&& 31)))) 2 g.toInt.toNat a) 4 g.toInt.toNat b) 5 g.toInt.toNat w) 6 g.toInt.toNat l) 3 g.toInt.toNat (Int32.ofInt 8)) R _
            refine u_iast rfl rfl (fun b111 b112 => ?_)
            refine u_st rfl (fun _ => rfl) ?_
            show u_P L xs n d m_X11_gust 139 [(6, .int (Int32.ofInt 1)), (0, .ref 1), (1, .int g), (2, .int a), (3, .int b), (4, .int w), (5, .int l)] [.int (Int32.ofInt 1)] (z_s (z_s (z_s (z_s (z_s (z_s (z_s S 1 0 ((S 1 0) ||| ((Int32.ofInt 1) <<< (g &&& 31)))) 2 g.toInt.toNat a) 4 g.toInt.toNat b) 5 g.toInt.toNat w) 6 g.toInt.toNat l) 3 g.toInt.toNat (Int32.ofInt 8)) 7 g.toInt.toNat (Int32.ofInt 0)) R _
            exact u_retb rfl rfl ⟨_, rfl, rfl, by rw [f_X11_gust, if_neg h1, if_neg h2, if_neg h3, if_neg h4, if_neg h5], by rw [g_X11_gust, if_neg h1, if_neg h2, if_neg h3, if_neg h4, if_neg h5]⟩
noncomputable abbrev m_X11_name : g_M := (g_cn 11, yX11_name, cX11_name, 3, (some .boolean), g_look2 ttX11_name)
set_option maxRecDepth 20000 in
theorem mt_X11_name : g_mt 112 = some m_X11_name := rfl
noncomputable def f_X11_name (g : Int32) (q : Int32) (S : v_Sf) : Int32 := (if (f_X7_hasGust 1 g S) = 0 then Int32.ofInt 0 else (if ¬ (f_X11_within q (Int32.ofInt 7)) = 0 then Int32.ofInt 1 else Int32.ofInt 0))
noncomputable def g_X11_name (g : Int32) (q : Int32) (S : v_Sf) : v_Sf := (if (f_X7_hasGust 1 g S) = 0 then S else (if ¬ (f_X11_within q (Int32.ofInt 7)) = 0 then z_s S 3 g.toInt.toNat q else S))
set_option maxRecDepth 4000 in
theorem c_X11_name (L : Nat) (xs : Nat → Int32) (n d : Nat) (g : Int32) (q : Int32) (S : v_Sf) (R : v_Rf) : u_P L xs n d m_X11_name 0 (lv_args 0 [.ref 1, .int g, .int q]) [] S R (z_Q R (fun v S1 => f_X11_name g q S = v ∧ g_X11_name g q S = S1)) := by
  show u_P L xs n d m_X11_name 0 [(0, .ref 1), (1, .int g), (2, .int q)] [] S R _
  refine u_st rfl (fun _ => rfl) ?_
  show u_P L xs n d m_X11_name 1 [(0, .ref 1), (1, .int g), (2, .int q)] [.ref 1] S R _
  refine u_getr rfl v_tyC rfl ?_
  refine u_st rfl (fun _ => rfl) ?_
  show u_P L xs n d m_X11_name 5 [(0, .ref 1), (1, .int g), (2, .int q)] [.int g, .ref 2] S R _
  refine u_cv (rest := []) rfl (by decide) mt_X7_hasGust rfl rfl rfl rfl (Nat.le_of_ble_eq_true rfl) (Nat.le_of_ble_eq_true rfl) (Nat.le_of_ble_eq_true rfl) (fun d' => c_X7_hasGust L xs n d' 1 (Or.inl rfl) g S R) ?_
  rintro _ _ _ ⟨_, rfl, rfl, rfl, rfl⟩
  show u_P L xs n d m_X11_name 8 [(0, .ref 1), (1, .int g), (2, .int q)] [.int (f_X7_hasGust 1 g S)] S R _
  refine u_if_eq rfl (fun h1 => ?_) (fun h1 => ?_)
  · show u_P L xs n d m_X11_name 20 [(0, .ref 1), (1, .int g), (2, .int q)] [] S R _
    refine u_st rfl (fun _ => rfl) ?_
    show u_P L xs n d m_X11_name 21 [(0, .ref 1), (1, .int g), (2, .int q)] [.int (Int32.ofInt 0)] S R _
    exact u_retb rfl rfl ⟨_, rfl, rfl, by rw [f_X11_name, if_pos h1], by rw [g_X11_name, if_pos h1]⟩
  · show u_P L xs n d m_X11_name 11 [(0, .ref 1), (1, .int g), (2, .int q)] [] S R _
    refine u_st rfl (fun _ => rfl) ?_
    refine u_st rfl (fun _ => rfl) ?_
    show u_P L xs n d m_X11_name 14 [(0, .ref 1), (1, .int g), (2, .int q)] [.int (Int32.ofInt 7), .int q] S R _
    refine u_cs (ac := [.int q, .int (Int32.ofInt 7)]) (rest := []) rfl (by decide) mt_X11_within (fun _ => rfl) (Nat.le_of_ble_eq_true rfl) (Nat.le_of_ble_eq_true rfl) (fun d' => c_X11_within L xs n d' q (Int32.ofInt 7) S R) ?_
    rintro _ _ _ ⟨_, rfl, rfl, rfl, rfl⟩
    show u_P L xs n d m_X11_name 17 [(0, .ref 1), (1, .int g), (2, .int q)] [.int (f_X11_within q (Int32.ofInt 7))] S R _
    refine u_if_ne rfl (fun h2 => ?_) (fun h2 => ?_)
    · show u_P L xs n d m_X11_name 22 [(0, .ref 1), (1, .int g), (2, .int q)] [] S R _
      refine u_st rfl (fun _ => rfl) ?_
      show u_P L xs n d m_X11_name 23 [(0, .ref 1), (1, .int g), (2, .int q)] [.ref 1] S R _
      refine u_getr rfl v_tyC rfl ?_
      show u_P L xs n d m_X11_name 26 [(0, .ref 1), (1, .int g), (2, .int q)] [.ref 2] S R _
      refine u_getr rfl rfl rfl ?_
      refine u_st rfl (fun _ => rfl) ?_
      refine u_st rfl (fun _ => rfl) ?_
      show u_P L xs n d m_X11_name 31 [(0, .ref 1), (1, .int g), (2, .int q)] [.int q, .int g, .ref 4] S R _
      refine u_iast rfl rfl (fun b31 b32 => ?_)
      refine u_st rfl (fun _ => rfl) ?_
      show u_P L xs n d m_X11_name 33 [(0, .ref 1), (1, .int g), (2, .int q)] [.int (Int32.ofInt 1)] (z_s S 3 g.toInt.toNat q) R _
      exact u_retb rfl rfl ⟨_, rfl, rfl, by rw [f_X11_name, if_neg h1, if_pos h2], by rw [g_X11_name, if_neg h1, if_pos h2]⟩
    · show u_P L xs n d m_X11_name 20 [(0, .ref 1), (1, .int g), (2, .int q)] [] S R _
      refine u_st rfl (fun _ => rfl) ?_
      show u_P L xs n d m_X11_name 21 [(0, .ref 1), (1, .int g), (2, .int q)] [.int (Int32.ofInt 0)] S R _
      exact u_retb rfl rfl ⟨_, rfl, rfl, by rw [f_X11_name, if_neg h1, if_neg h2], by rw [g_X11_name, if_neg h1, if_neg h2]⟩
noncomputable abbrev m_X11_habit : g_M := (g_cn 11, yX11_habit, cX11_habit, 5, (some .boolean), g_look2 ttX11_habit)
set_option maxRecDepth 20000 in
theorem mt_X11_habit : g_mt 114 = some m_X11_habit := rfl
noncomputable def f_X11_habit (g : Int32) (h : Int32) (a : Int32) (S : v_Sf) : Int32 := (if (f_X7_hasGust 1 g S) = 0 then Int32.ofInt 0 else (if ¬ (f_X11_within h (Int32.ofInt 9)) = 0 then (if a = 0 then Int32.ofInt 1 else Int32.ofInt 1) else Int32.ofInt 0))
noncomputable def g_X11_habit (g : Int32) (h : Int32) (a : Int32) (S : v_Sf) : v_Sf := (if (f_X7_hasGust 1 g S) = 0 then S else (if ¬ (f_X11_within h (Int32.ofInt 9)) = 0 then (if a = 0 then z_s S 7 g.toInt.toNat ((S 7 g.toInt.toNat) &&& (((Int32.ofInt 1) <<< (h &&& 31)) ^^^ (Int32.ofInt (-1)))) else z_s S 7 g.toInt.toNat ((S 7 g.toInt.toNat) ||| ((Int32.ofInt 1) <<< (h &&& 31)))) else S))
set_option maxRecDepth 4000 in
theorem c_X11_habit (L : Nat) (xs : Nat → Int32) (n d : Nat) (g : Int32) (h : Int32) (a : Int32) (S : v_Sf) (R : v_Rf) : u_P L xs n d m_X11_habit 0 (lv_args 0 [.ref 1, .int g, .int h, .int a]) [] S R (z_Q R (fun v S1 => f_X11_habit g h a S = v ∧ g_X11_habit g h a S = S1)) := by
  show u_P L xs n d m_X11_habit 0 [(0, .ref 1), (1, .int g), (2, .int h), (3, .int a)] [] S R _
  refine u_st rfl (fun _ => rfl) ?_
  show u_P L xs n d m_X11_habit 1 [(0, .ref 1), (1, .int g), (2, .int h), (3, .int a)] [.ref 1] S R _
  refine u_getr rfl v_tyC rfl ?_
  refine u_st rfl (fun _ => rfl) ?_
  show u_P L xs n d m_X11_habit 5 [(0, .ref 1), (1, .int g), (2, .int h), (3, .int a)] [.int g, .ref 2] S R _
  refine u_cv (rest := []) rfl (by decide) mt_X7_hasGust rfl rfl rfl rfl (Nat.le_of_ble_eq_true rfl) (Nat.le_of_ble_eq_true rfl) (Nat.le_of_ble_eq_true rfl) (fun d' => c_X7_hasGust L xs n d' 1 (Or.inl rfl) g S R) ?_
  rintro _ _ _ ⟨_, rfl, rfl, rfl, rfl⟩
  show u_P L xs n d m_X11_habit 8 [(0, .ref 1), (1, .int g), (2, .int h), (3, .int a)] [.int (f_X7_hasGust 1 g S)] S R _
  refine u_if_eq rfl (fun h1 => ?_) (fun h1 => ?_)
  · show u_P L xs n d m_X11_habit 20 [(0, .ref 1), (1, .int g), (2, .int h), (3, .int a)] [] S R _
    refine u_st rfl (fun _ => rfl) ?_
    show u_P L xs n d m_X11_habit 21 [(0, .ref 1), (1, .int g), (2, .int h), (3, .int a)] [.int (Int32.ofInt 0)] S R _
    exact u_retb rfl rfl ⟨_, rfl, rfl, by rw [f_X11_habit, if_pos h1], by rw [g_X11_habit, if_pos h1]⟩
  · show u_P L xs n d m_X11_habit 11 [(0, .ref 1), (1, .int g), (2, .int h), (3, .int a)] [] S R _
    refine u_st rfl (fun _ => rfl) ?_
    refine u_st rfl (fun _ => rfl) ?_
    show u_P L xs n d m_X11_habit 14 [(0, .ref 1), (1, .int g), (2, .int h), (3, .int a)] [.int (Int32.ofInt 9), .int h] S R _
    refine u_cs (ac := [.int h, .int (Int32.ofInt 9)]) (rest := []) rfl (by decide) mt_X11_within (fun _ => rfl) (Nat.le_of_ble_eq_true rfl) (Nat.le_of_ble_eq_true rfl) (fun d' => c_X11_within L xs n d' h (Int32.ofInt 9) S R) ?_
    rintro _ _ _ ⟨_, rfl, rfl, rfl, rfl⟩
    show u_P L xs n d m_X11_habit 17 [(0, .ref 1), (1, .int g), (2, .int h), (3, .int a)] [.int (f_X11_within h (Int32.ofInt 9))] S R _
    refine u_if_ne rfl (fun h2 => ?_) (fun h2 => ?_)
    · show u_P L xs n d m_X11_habit 22 [(0, .ref 1), (1, .int g), (2, .int h), (3, .int a)] [] S R _
      refine u_st rfl (fun _ => rfl) ?_
      refine u_st rfl (fun _ => rfl) ?_
      refine u_st rfl (fun _ => rfl) ?_
      refine u_st rfl (fun _ => rfl) ?_
      refine u_st rfl (fun _ => rfl) ?_
      show u_P L xs n d m_X11_habit 28 [(4, .int ((Int32.ofInt 1) <<< (h &&& 31))), (0, .ref 1), (1, .int g), (2, .int h), (3, .int a)] [.ref 1] S R _
      refine u_getr rfl v_tyC rfl ?_
      show u_P L xs n d m_X11_habit 31 [(4, .int ((Int32.ofInt 1) <<< (h &&& 31))), (0, .ref 1), (1, .int g), (2, .int h), (3, .int a)] [.ref 2] S R _
      refine u_getr rfl rfl rfl ?_
      refine u_st rfl (fun _ => rfl) ?_
      refine u_st rfl (fun _ => rfl) ?_
      show u_P L xs n d m_X11_habit 36 [(4, .int ((Int32.ofInt 1) <<< (h &&& 31))), (0, .ref 1), (1, .int g), (2, .int h), (3, .int a)] [.int a, .int g, .ref 8] S R _
      refine u_if_eq rfl (fun h3 => ?_) (fun h3 => ?_)
      · show u_P L xs n d m_X11_habit 54 [(4, .int ((Int32.ofInt 1) <<< (h &&& 31))), (0, .ref 1), (1, .int g), (2, .int h), (3, .int a)] [.int g, .ref 8] S R _
        refine u_st rfl (fun _ => rfl) ?_
        show u_P L xs n d m_X11_habit 55 [(4, .int ((Int32.ofInt 1) <<< (h &&& 31))), (0, .ref 1), (1, .int g), (2, .int h), (3, .int a)] [.ref 1, .int g, .ref 8] S R _
        refine u_getr rfl v_tyC rfl ?_
        show u_P L xs n d m_X11_habit 58 [(4, .int ((Int32.ofInt 1) <<< (h &&& 31))), (0, .ref 1), (1, .int g), (2, .int h), (3, .int a)] [.ref 2, .int g, .ref 8] S R _
        refine u_getr rfl rfl rfl ?_
        refine u_st rfl (fun _ => rfl) ?_
        show u_P L xs n d m_X11_habit 62 [(4, .int ((Int32.ofInt 1) <<< (h &&& 31))), (0, .ref 1), (1, .int g), (2, .int h), (3, .int a)] [.int g, .ref 8, .int g, .ref 8] S R _
        refine u_ialdE (v := S 7 g.toInt.toNat) rfl rfl rfl (fun b41 b42 => ?_)
        refine u_st rfl (fun _ => rfl) ?_
        refine u_st rfl (fun _ => rfl) ?_
        refine u_st rfl (fun _ => rfl) ?_
        refine u_st rfl (fun _ => rfl) ?_
        show u_P L xs n d m_X11_habit 68 [(4, .int ((Int32.ofInt 1) <<< (h &&& 31))), (0, .ref 1), (1, .int g), (2, .int h), (3, .int a)] [.int ((S 7 g.toInt.toNat) &&& (((Int32.ofInt 1) <<< (h &&& 31)) ^^^ (Int32.ofInt (-1)))), .int g, .ref 8] S R _
        refine u_iast rfl rfl (fun b51 b52 => ?_)
        refine u_st rfl (fun _ => rfl) ?_
        show u_P L xs n d m_X11_habit 70 [(4, .int ((Int32.ofInt 1) <<< (h &&& 31))), (0, .ref 1), (1, .int g), (2, .int h), (3, .int a)] [.int (Int32.ofInt 1)] (z_s S 7 g.toInt.toNat ((S 7 g.toInt.toNat) &&& (((Int32.ofInt 1) <<< (h &&& 31)) ^^^ (Int32.ofInt (-1))))) R _
        exact u_retb rfl rfl ⟨_, rfl, rfl, by rw [f_X11_habit, if_neg h1, if_pos h2, if_pos h3], by rw [g_X11_habit, if_neg h1, if_pos h2, if_pos h3]⟩
      · show u_P L xs n d m_X11_habit 39 [(4, .int ((Int32.ofInt 1) <<< (h &&& 31))), (0, .ref 1), (1, .int g), (2, .int h), (3, .int a)] [.int g, .ref 8] S R _
        refine u_st rfl (fun _ => rfl) ?_
        show u_P L xs n d m_X11_habit 40 [(4, .int ((Int32.ofInt 1) <<< (h &&& 31))), (0, .ref 1), (1, .int g), (2, .int h), (3, .int a)] [.ref 1, .int g, .ref 8] S R _
        refine u_getr rfl v_tyC rfl ?_
        show u_P L xs n d m_X11_habit 43 [(4, .int ((Int32.ofInt 1) <<< (h &&& 31))), (0, .ref 1), (1, .int g), (2, .int h), (3, .int a)] [.ref 2, .int g, .ref 8] S R _
        refine u_getr rfl rfl rfl ?_
        refine u_st rfl (fun _ => rfl) ?_
        show u_P L xs n d m_X11_habit 47 [(4, .int ((Int32.ofInt 1) <<< (h &&& 31))), (0, .ref 1), (1, .int g), (2, .int h), (3, .int a)] [.int g, .ref 8, .int g, .ref 8] S R _
        refine u_ialdE (v := S 7 g.toInt.toNat) rfl rfl rfl (fun b61 b62 => ?_)
        refine u_st rfl (fun _ => rfl) ?_
        refine u_st rfl (fun _ => rfl) ?_
        refine u_st rfl (fun _ => rfl) ?_
        show u_P L xs n d m_X11_habit 68 [(4, .int ((Int32.ofInt 1) <<< (h &&& 31))), (0, .ref 1), (1, .int g), (2, .int h), (3, .int a)] [.int ((S 7 g.toInt.toNat) ||| ((Int32.ofInt 1) <<< (h &&& 31))), .int g, .ref 8] S R _
        refine u_iast rfl rfl (fun b71 b72 => ?_)
        refine u_st rfl (fun _ => rfl) ?_
        show u_P L xs n d m_X11_habit 70 [(4, .int ((Int32.ofInt 1) <<< (h &&& 31))), (0, .ref 1), (1, .int g), (2, .int h), (3, .int a)] [.int (Int32.ofInt 1)] (z_s S 7 g.toInt.toNat ((S 7 g.toInt.toNat) ||| ((Int32.ofInt 1) <<< (h &&& 31)))) R _
        exact u_retb rfl rfl ⟨_, rfl, rfl, by rw [f_X11_habit, if_neg h1, if_pos h2, if_neg h3], by rw [g_X11_habit, if_neg h1, if_pos h2, if_neg h3]⟩
    · show u_P L xs n d m_X11_habit 20 [(0, .ref 1), (1, .int g), (2, .int h), (3, .int a)] [] S R _
      refine u_st rfl (fun _ => rfl) ?_
      show u_P L xs n d m_X11_habit 21 [(0, .ref 1), (1, .int g), (2, .int h), (3, .int a)] [.int (Int32.ofInt 0)] S R _
      exact u_retb rfl rfl ⟨_, rfl, rfl, by rw [f_X11_habit, if_neg h1, if_neg h2], by rw [g_X11_habit, if_neg h1, if_neg h2]⟩
noncomputable abbrev m_X11_nurse : g_M := (g_cn 11, yX11_nurse, cX11_nurse, 3, (some .boolean), g_look2 ttX11_nurse)
set_option maxRecDepth 20000 in
theorem mt_X11_nurse : g_mt 116 = some m_X11_nurse := rfl
noncomputable def f_X11_nurse (k : Int32) (a : Int32) (S : v_Sf) : Int32 := (if (f_X11_within k (Int32.ofInt 4)) = 0 then Int32.ofInt 0 else (if ¬ (f_X11_within a (Int32.ofInt 9)) = 0 then Int32.ofInt 1 else Int32.ofInt 0))
noncomputable def g_X11_nurse (k : Int32) (a : Int32) (S : v_Sf) : v_Sf := (if (f_X11_within k (Int32.ofInt 4)) = 0 then S else (if ¬ (f_X11_within a (Int32.ofInt 9)) = 0 then z_s (z_s (z_s S 1 7 ((S 1 7) ||| ((Int32.ofInt 1) <<< (k &&& 31)))) 8 k.toInt.toNat a) 9 k.toInt.toNat (Int32.ofInt 0) else S))
set_option maxRecDepth 4000 in
theorem c_X11_nurse (L : Nat) (xs : Nat → Int32) (n d : Nat) (k : Int32) (a : Int32) (S : v_Sf) (R : v_Rf) : u_P L xs n d m_X11_nurse 0 (lv_args 0 [.ref 1, .int k, .int a]) [] S R (z_Q R (fun v S1 => f_X11_nurse k a S = v ∧ g_X11_nurse k a S = S1)) := by
  show u_P L xs n d m_X11_nurse 0 [(0, .ref 1), (1, .int k), (2, .int a)] [] S R _
  refine u_st rfl (fun _ => rfl) ?_
  refine u_st rfl (fun _ => rfl) ?_
  show u_P L xs n d m_X11_nurse 2 [(0, .ref 1), (1, .int k), (2, .int a)] [.int (Int32.ofInt 4), .int k] S R _
  refine u_cs (ac := [.int k, .int (Int32.ofInt 4)]) (rest := []) rfl (by decide) mt_X11_within (fun _ => rfl) (Nat.le_of_ble_eq_true rfl) (Nat.le_of_ble_eq_true rfl) (fun d' => c_X11_within L xs n d' k (Int32.ofInt 4) S R) ?_
  rintro _ _ _ ⟨_, rfl, rfl, rfl, rfl⟩
  show u_P L xs n d m_X11_nurse 5 [(0, .ref 1), (1, .int k), (2, .int a)] [.int (f_X11_within k (Int32.ofInt 4))] S R _
  refine u_if_eq rfl (fun h1 => ?_) (fun h1 => ?_)
  · show u_P L xs n d m_X11_nurse 17 [(0, .ref 1), (1, .int k), (2, .int a)] [] S R _
    refine u_st rfl (fun _ => rfl) ?_
    show u_P L xs n d m_X11_nurse 18 [(0, .ref 1), (1, .int k), (2, .int a)] [.int (Int32.ofInt 0)] S R _
    exact u_retb rfl rfl ⟨_, rfl, rfl, by rw [f_X11_nurse, if_pos h1], by rw [g_X11_nurse, if_pos h1]⟩
  · show u_P L xs n d m_X11_nurse 8 [(0, .ref 1), (1, .int k), (2, .int a)] [] S R _
    refine u_st rfl (fun _ => rfl) ?_
    refine u_st rfl (fun _ => rfl) ?_
    show u_P L xs n d m_X11_nurse 11 [(0, .ref 1), (1, .int k), (2, .int a)] [.int (Int32.ofInt 9), .int a] S R _
    refine u_cs (ac := [.int a, .int (Int32.ofInt 9)]) (rest := []) rfl (by decide) mt_X11_within (fun _ => rfl) (Nat.le_of_ble_eq_true rfl) (Nat.le_of_ble_eq_true rfl) (fun d' => c_X11_within L xs n d' a (Int32.ofInt 9) S R) ?_
    rintro _ _ _ ⟨_, rfl, rfl, rfl, rfl⟩
    show u_P L xs n d m_X11_nurse 14 [(0, .ref 1), (1, .int k), (2, .int a)] [.int (f_X11_within a (Int32.ofInt 9))] S R _
    refine u_if_ne rfl (fun h2 => ?_) (fun h2 => ?_)
    · show u_P L xs n d m_X11_nurse 19 [(0, .ref 1), (1, .int k), (2, .int a)] [] S R _
      refine u_st rfl (fun _ => rfl) ?_
      show u_P L xs n d m_X11_nurse 20 [(0, .ref 1), (1, .int k), (2, .int a)] [.ref 1] S R _
      refine u_getr rfl v_tyC rfl ?_
      refine u_st rfl (fun _ => rfl) ?_
      show u_P L xs n d m_X11_nurse 24 [(0, .ref 1), (1, .int k), (2, .int a)] [.ref 2, .ref 2] S R _
      refine u_getE (v := S 1 7) rfl rfl rfl rfl ?_
      refine u_st rfl (fun _ => rfl) ?_
      refine u_st rfl (fun _ => rfl) ?_
      refine u_st rfl (fun _ => rfl) ?_
      refine u_st rfl (fun _ => rfl) ?_
      show u_P L xs n d m_X11_nurse 31 [(0, .ref 1), (1, .int k), (2, .int a)] [.int ((S 1 7) ||| ((Int32.ofInt 1) <<< (k &&& 31))), .ref 2] S R _
      refine u_put rfl rfl rfl ?_
      refine u_st rfl (fun _ => rfl) ?_
      show u_P L xs n d m_X11_nurse 35 [(0, .ref 1), (1, .int k), (2, .int a)] [.ref 1] (z_s S 1 7 ((S 1 7) ||| ((Int32.ofInt 1) <<< (k &&& 31)))) R _
      refine u_getr rfl v_tyC rfl ?_
      show u_P L xs n d m_X11_nurse 38 [(0, .ref 1), (1, .int k), (2, .int a)] [.ref 2] (z_s S 1 7 ((S 1 7) ||| ((Int32.ofInt 1) <<< (k &&& 31)))) R _
      refine u_getr rfl rfl rfl ?_
      refine u_st rfl (fun _ => rfl) ?_
      refine u_st rfl (fun _ => rfl) ?_
      show u_P L xs n d m_X11_nurse 43 [(0, .ref 1), (1, .int k), (2, .int a)] [.int a, .int k, .ref 9] (z_s S 1 7 ((S 1 7) ||| ((Int32.ofInt 1) <<< (k &&& 31)))) R _
      refine u_iast rfl rfl (fun b31 b32 => ?_)
      refine u_st rfl (fun _ => rfl) ?_
      show u_P L xs n d m_X11_nurse 45 [(0, .ref 1), (1, .int k), (2, .int a)] [.ref 1] (z_s (z_s S 1 7 ((S 1 7) ||| ((Int32.ofInt 1) <<< (k &&& 31)))) 8 k.toInt.toNat a) R _
      refine u_getr rfl v_tyC rfl ?_
      show u_P L xs n d m_X11_nurse 48 [(0, .ref 1), (1, .int k), (2, .int a)] [.ref 2] (z_s (z_s S 1 7 ((S 1 7) ||| ((Int32.ofInt 1) <<< (k &&& 31)))) 8 k.toInt.toNat a) R _
      refine u_getr rfl rfl rfl ?_
      refine u_st rfl (fun _ => rfl) ?_
      refine u_st rfl (fun _ => rfl) ?_
      show u_P L xs n d m_X11_nurse 53 [(0, .ref 1), (1, .int k), (2, .int a)] [.int (Int32.ofInt 0), .int k, .ref 10] (z_s (z_s S 1 7 ((S 1 7) ||| ((Int32.ofInt 1) <<< (k &&& 31)))) 8 k.toInt.toNat a) R _
      refine u_iast rfl rfl (fun b41 b42 => ?_)
      refine u_st rfl (fun _ => rfl) ?_
      show u_P L xs n d m_X11_nurse 55 [(0, .ref 1), (1, .int k), (2, .int a)] [.int (Int32.ofInt 1)] (z_s (z_s (z_s S 1 7 ((S 1 7) ||| ((Int32.ofInt 1) <<< (k &&& 31)))) 8 k.toInt.toNat a) 9 k.toInt.toNat (Int32.ofInt 0)) R _
      exact u_retb rfl rfl ⟨_, rfl, rfl, by rw [f_X11_nurse, if_neg h1, if_pos h2], by rw [g_X11_nurse, if_neg h1, if_pos h2]⟩
    · show u_P L xs n d m_X11_nurse 17 [(0, .ref 1), (1, .int k), (2, .int a)] [] S R _
      refine u_st rfl (fun _ => rfl) ?_
      show u_P L xs n d m_X11_nurse 18 [(0, .ref 1), (1, .int k), (2, .int a)] [.int (Int32.ofInt 0)] S R _
      exact u_retb rfl rfl ⟨_, rfl, rfl, by rw [f_X11_nurse, if_neg h1, if_neg h2], by rw [g_X11_nurse, if_neg h1, if_neg h2]⟩
noncomputable abbrev m_X11_needs : g_M := (g_cn 11, yX11_needs, cX11_needs, 3, (some .boolean), g_look2 ttX11_needs)
set_option maxRecDepth 20000 in
theorem mt_X11_needs : g_mt 117 = some m_X11_needs := rfl
noncomputable def f_X11_needs (l : Int32) (h : Int32) (S : v_Sf) : Int32 := (if (f_X11_within l (Int32.ofInt 9)) = 0 then Int32.ofInt 0 else (if (f_X11_within h (Int32.ofInt 1023)) = 0 then Int32.ofInt 0 else (if ((h >>> (l &&& 31)) &&& (Int32.ofInt 1)) = 0 then Int32.ofInt 1 else Int32.ofInt 0)))
noncomputable def g_X11_needs (l : Int32) (h : Int32) (S : v_Sf) : v_Sf := (if (f_X11_within l (Int32.ofInt 9)) = 0 then S else (if (f_X11_within h (Int32.ofInt 1023)) = 0 then S else (if ((h >>> (l &&& 31)) &&& (Int32.ofInt 1)) = 0 then z_s S 48 l.toInt.toNat h else S)))
set_option maxRecDepth 4000 in
theorem c_X11_needs (L : Nat) (xs : Nat → Int32) (n d : Nat) (l : Int32) (h : Int32) (S : v_Sf) (R : v_Rf) : u_P L xs n d m_X11_needs 0 (lv_args 0 [.ref 1, .int l, .int h]) [] S R (z_Q R (fun v S1 => f_X11_needs l h S = v ∧ g_X11_needs l h S = S1)) := by
  show u_P L xs n d m_X11_needs 0 [(0, .ref 1), (1, .int l), (2, .int h)] [] S R _
  refine u_st rfl (fun _ => rfl) ?_
  refine u_st rfl (fun _ => rfl) ?_
  show u_P L xs n d m_X11_needs 3 [(0, .ref 1), (1, .int l), (2, .int h)] [.int (Int32.ofInt 9), .int l] S R _
  refine u_cs (ac := [.int l, .int (Int32.ofInt 9)]) (rest := []) rfl (by decide) mt_X11_within (fun _ => rfl) (Nat.le_of_ble_eq_true rfl) (Nat.le_of_ble_eq_true rfl) (fun d' => c_X11_within L xs n d' l (Int32.ofInt 9) S R) ?_
  rintro _ _ _ ⟨_, rfl, rfl, rfl, rfl⟩
  show u_P L xs n d m_X11_needs 6 [(0, .ref 1), (1, .int l), (2, .int h)] [.int (f_X11_within l (Int32.ofInt 9))] S R _
  refine u_if_eq rfl (fun h1 => ?_) (fun h1 => ?_)
  · show u_P L xs n d m_X11_needs 27 [(0, .ref 1), (1, .int l), (2, .int h)] [] S R _
    refine u_st rfl (fun _ => rfl) ?_
    show u_P L xs n d m_X11_needs 28 [(0, .ref 1), (1, .int l), (2, .int h)] [.int (Int32.ofInt 0)] S R _
    exact u_retb rfl rfl ⟨_, rfl, rfl, by rw [f_X11_needs, if_pos h1], by rw [g_X11_needs, if_pos h1]⟩
  · show u_P L xs n d m_X11_needs 9 [(0, .ref 1), (1, .int l), (2, .int h)] [] S R _
    refine u_st rfl (fun _ => rfl) ?_
    refine u_st rfl (fun _ => rfl) ?_
    show u_P L xs n d m_X11_needs 13 [(0, .ref 1), (1, .int l), (2, .int h)] [.int (Int32.ofInt 1023), .int h] S R _
    refine u_cs (ac := [.int h, .int (Int32.ofInt 1023)]) (rest := []) rfl (by decide) mt_X11_within (fun _ => rfl) (Nat.le_of_ble_eq_true rfl) (Nat.le_of_ble_eq_true rfl) (fun d' => c_X11_within L xs n d' h (Int32.ofInt 1023) S R) ?_
    rintro _ _ _ ⟨_, rfl, rfl, rfl, rfl⟩
    show u_P L xs n d m_X11_needs 16 [(0, .ref 1), (1, .int l), (2, .int h)] [.int (f_X11_within h (Int32.ofInt 1023))] S R _
    refine u_if_eq rfl (fun h2 => ?_) (fun h2 => ?_)
    · show u_P L xs n d m_X11_needs 27 [(0, .ref 1), (1, .int l), (2, .int h)] [] S R _
      refine u_st rfl (fun _ => rfl) ?_
      show u_P L xs n d m_X11_needs 28 [(0, .ref 1), (1, .int l), (2, .int h)] [.int (Int32.ofInt 0)] S R _
      exact u_retb rfl rfl ⟨_, rfl, rfl, by rw [f_X11_needs, if_neg h1, if_pos h2], by rw [g_X11_needs, if_neg h1, if_pos h2]⟩
    · show u_P L xs n d m_X11_needs 19 [(0, .ref 1), (1, .int l), (2, .int h)] [] S R _
      refine u_st rfl (fun _ => rfl) ?_
      refine u_st rfl (fun _ => rfl) ?_
      refine u_st rfl (fun _ => rfl) ?_
      refine u_st rfl (fun _ => rfl) ?_
      refine u_st rfl (fun _ => rfl) ?_
      show u_P L xs n d m_X11_needs 24 [(0, .ref 1), (1, .int l), (2, .int h)] [.int ((h >>> (l &&& 31)) &&& (Int32.ofInt 1))] S R _
      refine u_if_eq rfl (fun h3 => ?_) (fun h3 => ?_)
      · show u_P L xs n d m_X11_needs 29 [(0, .ref 1), (1, .int l), (2, .int h)] [] S R _
        refine u_st rfl (fun _ => rfl) ?_
        show u_P L xs n d m_X11_needs 30 [(0, .ref 1), (1, .int l), (2, .int h)] [.ref 1] S R _
        refine u_getr rfl v_tyC rfl ?_
        show u_P L xs n d m_X11_needs 33 [(0, .ref 1), (1, .int l), (2, .int h)] [.ref 48] S R _
        refine u_getr rfl rfl rfl ?_
        refine u_st rfl (fun _ => rfl) ?_
        refine u_st rfl (fun _ => rfl) ?_
        show u_P L xs n d m_X11_needs 38 [(0, .ref 1), (1, .int l), (2, .int h)] [.int h, .int l, .ref 49] S R _
        refine u_iast rfl rfl (fun b41 b42 => ?_)
        refine u_st rfl (fun _ => rfl) ?_
        show u_P L xs n d m_X11_needs 40 [(0, .ref 1), (1, .int l), (2, .int h)] [.int (Int32.ofInt 1)] (z_s S 48 l.toInt.toNat h) R _
        exact u_retb rfl rfl ⟨_, rfl, rfl, by rw [f_X11_needs, if_neg h1, if_neg h2, if_pos h3], by rw [g_X11_needs, if_neg h1, if_neg h2, if_pos h3]⟩
      · show u_P L xs n d m_X11_needs 27 [(0, .ref 1), (1, .int l), (2, .int h)] [] S R _
        refine u_st rfl (fun _ => rfl) ?_
        show u_P L xs n d m_X11_needs 28 [(0, .ref 1), (1, .int l), (2, .int h)] [.int (Int32.ofInt 0)] S R _
        exact u_retb rfl rfl ⟨_, rfl, rfl, by rw [f_X11_needs, if_neg h1, if_neg h2, if_neg h3], by rw [g_X11_needs, if_neg h1, if_neg h2, if_neg h3]⟩
noncomputable abbrev m_X11_wind : g_M := (g_cn 11, yX11_wind, cX11_wind, 4, (some .boolean), g_look2 ttX11_wind)
set_option maxRecDepth 20000 in
theorem mt_X11_wind : g_mt 118 = some m_X11_wind := rfl
noncomputable def f_X11_wind (k : Int32) (q : Int32) (l : Int32) (S : v_Sf) : Int32 := (if (f_X11_within k (Int32.ofInt 3)) = 0 then Int32.ofInt 0 else (if (f_X11_within q (Int32.ofInt 7)) = 0 then Int32.ofInt 0 else (if ¬ (f_X11_within l (Int32.ofInt 255)) = 0 then Int32.ofInt 1 else Int32.ofInt 0)))
noncomputable def g_X11_wind (k : Int32) (q : Int32) (l : Int32) (S : v_Sf) : v_Sf := (if (f_X11_within k (Int32.ofInt 3)) = 0 then S else (if (f_X11_within q (Int32.ofInt 7)) = 0 then S else (if ¬ (f_X11_within l (Int32.ofInt 255)) = 0 then z_s (z_s (z_s S 86 0 ((S 86 0) ||| ((Int32.ofInt 1) <<< (k &&& 31)))) 87 k.toInt.toNat q) 88 k.toInt.toNat l else S)))
set_option maxRecDepth 4000 in
theorem c_X11_wind (L : Nat) (xs : Nat → Int32) (n d : Nat) (k : Int32) (q : Int32) (l : Int32) (S : v_Sf) (R : v_Rf) : u_P L xs n d m_X11_wind 0 (lv_args 0 [.ref 1, .int k, .int q, .int l]) [] S R (z_Q R (fun v S1 => f_X11_wind k q l S = v ∧ g_X11_wind k q l S = S1)) := by
  show u_P L xs n d m_X11_wind 0 [(0, .ref 1), (1, .int k), (2, .int q), (3, .int l)] [] S R _
  refine u_st rfl (fun _ => rfl) ?_
  refine u_st rfl (fun _ => rfl) ?_
  show u_P L xs n d m_X11_wind 2 [(0, .ref 1), (1, .int k), (2, .int q), (3, .int l)] [.int (Int32.ofInt 3), .int k] S R _
  refine u_cs (ac := [.int k, .int (Int32.ofInt 3)]) (rest := []) rfl (by decide) mt_X11_within (fun _ => rfl) (Nat.le_of_ble_eq_true rfl) (Nat.le_of_ble_eq_true rfl) (fun d' => c_X11_within L xs n d' k (Int32.ofInt 3) S R) ?_
  rintro _ _ _ ⟨_, rfl, rfl, rfl, rfl⟩
  show u_P L xs n d m_X11_wind 5 [(0, .ref 1), (1, .int k), (2, .int q), (3, .int l)] [.int (f_X11_within k (Int32.ofInt 3))] S R _
  refine u_if_eq rfl (fun h1 => ?_) (fun h1 => ?_)
  · show u_P L xs n d m_X11_wind 27 [(0, .ref 1), (1, .int k), (2, .int q), (3, .int l)] [] S R _
    refine u_st rfl (fun _ => rfl) ?_
    show u_P L xs n d m_X11_wind 28 [(0, .ref 1), (1, .int k), (2, .int q), (3, .int l)] [.int (Int32.ofInt 0)] S R _
    exact u_retb rfl rfl ⟨_, rfl, rfl, by rw [f_X11_wind, if_pos h1], by rw [g_X11_wind, if_pos h1]⟩
  · show u_P L xs n d m_X11_wind 8 [(0, .ref 1), (1, .int k), (2, .int q), (3, .int l)] [] S R _
    refine u_st rfl (fun _ => rfl) ?_
    refine u_st rfl (fun _ => rfl) ?_
    show u_P L xs n d m_X11_wind 11 [(0, .ref 1), (1, .int k), (2, .int q), (3, .int l)] [.int (Int32.ofInt 7), .int q] S R _
    refine u_cs (ac := [.int q, .int (Int32.ofInt 7)]) (rest := []) rfl (by decide) mt_X11_within (fun _ => rfl) (Nat.le_of_ble_eq_true rfl) (Nat.le_of_ble_eq_true rfl) (fun d' => c_X11_within L xs n d' q (Int32.ofInt 7) S R) ?_
    rintro _ _ _ ⟨_, rfl, rfl, rfl, rfl⟩
    show u_P L xs n d m_X11_wind 14 [(0, .ref 1), (1, .int k), (2, .int q), (3, .int l)] [.int (f_X11_within q (Int32.ofInt 7))] S R _
    refine u_if_eq rfl (fun h2 => ?_) (fun h2 => ?_)
    · show u_P L xs n d m_X11_wind 27 [(0, .ref 1), (1, .int k), (2, .int q), (3, .int l)] [] S R _
      refine u_st rfl (fun _ => rfl) ?_
      show u_P L xs n d m_X11_wind 28 [(0, .ref 1), (1, .int k), (2, .int q), (3, .int l)] [.int (Int32.ofInt 0)] S R _
      exact u_retb rfl rfl ⟨_, rfl, rfl, by rw [f_X11_wind, if_neg h1, if_pos h2], by rw [g_X11_wind, if_neg h1, if_pos h2]⟩
    · show u_P L xs n d m_X11_wind 17 [(0, .ref 1), (1, .int k), (2, .int q), (3, .int l)] [] S R _
      refine u_st rfl (fun _ => rfl) ?_
      refine u_st rfl (fun _ => rfl) ?_
      show u_P L xs n d m_X11_wind 21 [(0, .ref 1), (1, .int k), (2, .int q), (3, .int l)] [.int (Int32.ofInt 255), .int l] S R _
      refine u_cs (ac := [.int l, .int (Int32.ofInt 255)]) (rest := []) rfl (by decide) mt_X11_within (fun _ => rfl) (Nat.le_of_ble_eq_true rfl) (Nat.le_of_ble_eq_true rfl) (fun d' => c_X11_within L xs n d' l (Int32.ofInt 255) S R) ?_
      rintro _ _ _ ⟨_, rfl, rfl, rfl, rfl⟩
      show u_P L xs n d m_X11_wind 24 [(0, .ref 1), (1, .int k), (2, .int q), (3, .int l)] [.int (f_X11_within l (Int32.ofInt 255))] S R _
      refine u_if_ne rfl (fun h3 => ?_) (fun h3 => ?_)
      · show u_P L xs n d m_X11_wind 29 [(0, .ref 1), (1, .int k), (2, .int q), (3, .int l)] [] S R _
        refine u_st rfl (fun _ => rfl) ?_
        show u_P L xs n d m_X11_wind 30 [(0, .ref 1), (1, .int k), (2, .int q), (3, .int l)] [.ref 1] S R _
        refine u_getr rfl v_tyC rfl ?_
        refine u_st rfl (fun _ => rfl) ?_
        show u_P L xs n d m_X11_wind 34 [(0, .ref 1), (1, .int k), (2, .int q), (3, .int l)] [.ref 87, .ref 87] S R _
        refine u_getE (v := S 86 0) rfl rfl rfl rfl ?_
        refine u_st rfl (fun _ => rfl) ?_
        refine u_st rfl (fun _ => rfl) ?_
        refine u_st rfl (fun _ => rfl) ?_
        refine u_st rfl (fun _ => rfl) ?_
        show u_P L xs n d m_X11_wind 41 [(0, .ref 1), (1, .int k), (2, .int q), (3, .int l)] [.int ((S 86 0) ||| ((Int32.ofInt 1) <<< (k &&& 31))), .ref 87] S R _
        refine u_put rfl rfl rfl ?_
        refine u_st rfl (fun _ => rfl) ?_
        show u_P L xs n d m_X11_wind 45 [(0, .ref 1), (1, .int k), (2, .int q), (3, .int l)] [.ref 1] (z_s S 86 0 ((S 86 0) ||| ((Int32.ofInt 1) <<< (k &&& 31)))) R _
        refine u_getr rfl v_tyC rfl ?_
        show u_P L xs n d m_X11_wind 48 [(0, .ref 1), (1, .int k), (2, .int q), (3, .int l)] [.ref 87] (z_s S 86 0 ((S 86 0) ||| ((Int32.ofInt 1) <<< (k &&& 31)))) R _
        refine u_getr rfl rfl rfl ?_
        refine u_st rfl (fun _ => rfl) ?_
        refine u_st rfl (fun _ => rfl) ?_
        show u_P L xs n d m_X11_wind 53 [(0, .ref 1), (1, .int k), (2, .int q), (3, .int l)] [.int q, .int k, .ref 88] (z_s S 86 0 ((S 86 0) ||| ((Int32.ofInt 1) <<< (k &&& 31)))) R _
        refine u_iast rfl rfl (fun b41 b42 => ?_)
        refine u_st rfl (fun _ => rfl) ?_
        show u_P L xs n d m_X11_wind 55 [(0, .ref 1), (1, .int k), (2, .int q), (3, .int l)] [.ref 1] (z_s (z_s S 86 0 ((S 86 0) ||| ((Int32.ofInt 1) <<< (k &&& 31)))) 87 k.toInt.toNat q) R _
        refine u_getr rfl v_tyC rfl ?_
        show u_P L xs n d m_X11_wind 58 [(0, .ref 1), (1, .int k), (2, .int q), (3, .int l)] [.ref 87] (z_s (z_s S 86 0 ((S 86 0) ||| ((Int32.ofInt 1) <<< (k &&& 31)))) 87 k.toInt.toNat q) R _
        refine u_getr rfl rfl rfl ?_
        refine u_st rfl (fun _ => rfl) ?_
        refine u_st rfl (fun _ => rfl) ?_
        show u_P L xs n d m_X11_wind 63 [(0, .ref 1), (1, .int k), (2, .int q), (3, .int l)] [.int l, .int k, .ref 89] (z_s (z_s S 86 0 ((S 86 0) ||| ((Int32.ofInt 1) <<< (k &&& 31)))) 87 k.toInt.toNat q) R _
        refine u_iast rfl rfl (fun b51 b52 => ?_)
        refine u_st rfl (fun _ => rfl) ?_
        show u_P L xs n d m_X11_wind 65 [(0, .ref 1), (1, .int k), (2, .int q), (3, .int l)] [.int (Int32.ofInt 1)] (z_s (z_s (z_s S 86 0 ((S 86 0) ||| ((Int32.ofInt 1) <<< (k &&& 31)))) 87 k.toInt.toNat q) 88 k.toInt.toNat l) R _
        exact u_retb rfl rfl ⟨_, rfl, rfl, by rw [f_X11_wind, if_neg h1, if_neg h2, if_pos h3], by rw [g_X11_wind, if_neg h1, if_neg h2, if_pos h3]⟩
      · show u_P L xs n d m_X11_wind 27 [(0, .ref 1), (1, .int k), (2, .int q), (3, .int l)] [] S R _
        refine u_st rfl (fun _ => rfl) ?_
        show u_P L xs n d m_X11_wind 28 [(0, .ref 1), (1, .int k), (2, .int q), (3, .int l)] [.int (Int32.ofInt 0)] S R _
        exact u_retb rfl rfl ⟨_, rfl, rfl, by rw [f_X11_wind, if_neg h1, if_neg h2, if_neg h3], by rw [g_X11_wind, if_neg h1, if_neg h2, if_neg h3]⟩
noncomputable abbrev m_X11_home : g_M := (g_cn 11, yX11_home, cX11_home, 3, (some .boolean), g_look2 ttX11_home)
set_option maxRecDepth 20000 in
theorem mt_X11_home : g_mt 119 = some m_X11_home := rfl
noncomputable def f_X11_home (k : Int32) (h : Int32) (S : v_Sf) : Int32 := (if (f_X11_within k (Int32.ofInt 9)) = 0 then Int32.ofInt 0 else (if ¬ (f_X11_within h (Int32.ofInt 1023)) = 0 then Int32.ofInt 1 else Int32.ofInt 0))
noncomputable def g_X11_home (k : Int32) (h : Int32) (S : v_Sf) : v_Sf := (if (f_X11_within k (Int32.ofInt 9)) = 0 then S else (if ¬ (f_X11_within h (Int32.ofInt 1023)) = 0 then z_s (z_s S 0 13 ((S 0 13) ||| ((Int32.ofInt 1) <<< (k &&& 31)))) 31 k.toInt.toNat h else S))
set_option maxRecDepth 4000 in
theorem c_X11_home (L : Nat) (xs : Nat → Int32) (n d : Nat) (k : Int32) (h : Int32) (S : v_Sf) (R : v_Rf) : u_P L xs n d m_X11_home 0 (lv_args 0 [.ref 1, .int k, .int h]) [] S R (z_Q R (fun v S1 => f_X11_home k h S = v ∧ g_X11_home k h S = S1)) := by
  show u_P L xs n d m_X11_home 0 [(0, .ref 1), (1, .int k), (2, .int h)] [] S R _
  refine u_st rfl (fun _ => rfl) ?_
  refine u_st rfl (fun _ => rfl) ?_
  show u_P L xs n d m_X11_home 3 [(0, .ref 1), (1, .int k), (2, .int h)] [.int (Int32.ofInt 9), .int k] S R _
  refine u_cs (ac := [.int k, .int (Int32.ofInt 9)]) (rest := []) rfl (by decide) mt_X11_within (fun _ => rfl) (Nat.le_of_ble_eq_true rfl) (Nat.le_of_ble_eq_true rfl) (fun d' => c_X11_within L xs n d' k (Int32.ofInt 9) S R) ?_
  rintro _ _ _ ⟨_, rfl, rfl, rfl, rfl⟩
  show u_P L xs n d m_X11_home 6 [(0, .ref 1), (1, .int k), (2, .int h)] [.int (f_X11_within k (Int32.ofInt 9))] S R _
  refine u_if_eq rfl (fun h1 => ?_) (fun h1 => ?_)
  · show u_P L xs n d m_X11_home 19 [(0, .ref 1), (1, .int k), (2, .int h)] [] S R _
    refine u_st rfl (fun _ => rfl) ?_
    show u_P L xs n d m_X11_home 20 [(0, .ref 1), (1, .int k), (2, .int h)] [.int (Int32.ofInt 0)] S R _
    exact u_retb rfl rfl ⟨_, rfl, rfl, by rw [f_X11_home, if_pos h1], by rw [g_X11_home, if_pos h1]⟩
  · show u_P L xs n d m_X11_home 9 [(0, .ref 1), (1, .int k), (2, .int h)] [] S R _
    refine u_st rfl (fun _ => rfl) ?_
    refine u_st rfl (fun _ => rfl) ?_
    show u_P L xs n d m_X11_home 13 [(0, .ref 1), (1, .int k), (2, .int h)] [.int (Int32.ofInt 1023), .int h] S R _
    refine u_cs (ac := [.int h, .int (Int32.ofInt 1023)]) (rest := []) rfl (by decide) mt_X11_within (fun _ => rfl) (Nat.le_of_ble_eq_true rfl) (Nat.le_of_ble_eq_true rfl) (fun d' => c_X11_within L xs n d' h (Int32.ofInt 1023) S R) ?_
    rintro _ _ _ ⟨_, rfl, rfl, rfl, rfl⟩
    show u_P L xs n d m_X11_home 16 [(0, .ref 1), (1, .int k), (2, .int h)] [.int (f_X11_within h (Int32.ofInt 1023))] S R _
    refine u_if_ne rfl (fun h2 => ?_) (fun h2 => ?_)
    · show u_P L xs n d m_X11_home 21 [(0, .ref 1), (1, .int k), (2, .int h)] [] S R _
      refine u_st rfl (fun _ => rfl) ?_
      refine u_st rfl (fun _ => rfl) ?_
      show u_P L xs n d m_X11_home 23 [(0, .ref 1), (1, .int k), (2, .int h)] [.ref 1, .ref 1] S R _
      refine u_getE (v := S 0 13) rfl v_tyC rfl rfl ?_
      refine u_st rfl (fun _ => rfl) ?_
      refine u_st rfl (fun _ => rfl) ?_
      refine u_st rfl (fun _ => rfl) ?_
      refine u_st rfl (fun _ => rfl) ?_
      show u_P L xs n d m_X11_home 30 [(0, .ref 1), (1, .int k), (2, .int h)] [.int ((S 0 13) ||| ((Int32.ofInt 1) <<< (k &&& 31))), .ref 1] S R _
      refine u_put rfl v_tyC rfl ?_
      refine u_st rfl (fun _ => rfl) ?_
      show u_P L xs n d m_X11_home 34 [(0, .ref 1), (1, .int k), (2, .int h)] [.ref 1] (z_s S 0 13 ((S 0 13) ||| ((Int32.ofInt 1) <<< (k &&& 31)))) R _
      refine u_getr rfl v_tyC rfl ?_
      refine u_st rfl (fun _ => rfl) ?_
      refine u_st rfl (fun _ => rfl) ?_
      show u_P L xs n d m_X11_home 39 [(0, .ref 1), (1, .int k), (2, .int h)] [.int h, .int k, .ref 32] (z_s S 0 13 ((S 0 13) ||| ((Int32.ofInt 1) <<< (k &&& 31)))) R _
      refine u_iast rfl rfl (fun b31 b32 => ?_)
      refine u_st rfl (fun _ => rfl) ?_
      show u_P L xs n d m_X11_home 41 [(0, .ref 1), (1, .int k), (2, .int h)] [.int (Int32.ofInt 1)] (z_s (z_s S 0 13 ((S 0 13) ||| ((Int32.ofInt 1) <<< (k &&& 31)))) 31 k.toInt.toNat h) R _
      exact u_retb rfl rfl ⟨_, rfl, rfl, by rw [f_X11_home, if_neg h1, if_pos h2], by rw [g_X11_home, if_neg h1, if_pos h2]⟩
    · show u_P L xs n d m_X11_home 19 [(0, .ref 1), (1, .int k), (2, .int h)] [] S R _
      refine u_st rfl (fun _ => rfl) ?_
      show u_P L xs n d m_X11_home 20 [(0, .ref 1), (1, .int k), (2, .int h)] [.int (Int32.ofInt 0)] S R _
      exact u_retb rfl rfl ⟨_, rfl, rfl, by rw [f_X11_home, if_neg h1, if_neg h2], by rw [g_X11_home, if_neg h1, if_neg h2]⟩
noncomputable abbrev m_X11_house : g_M := (g_cn 11, yX11_house, cX11_house, 4, (some .boolean), g_look2 ttX11_house)
set_option maxRecDepth 20000 in
theorem mt_X11_house : g_mt 120 = some m_X11_house := rfl
noncomputable def f_X11_house (k : Int32) (r : Int32) (h : Int32) (S : v_Sf) : Int32 := (if (f_X11_within k (Int32.ofInt 4)) = 0 then Int32.ofInt 0 else (if (f_X11_within r (Int32.ofInt 99)) = 0 then Int32.ofInt 0 else (if ¬ (f_X11_within h (Int32.ofInt 1023)) = 0 then Int32.ofInt 1 else Int32.ofInt 0)))
noncomputable def g_X11_house (k : Int32) (r : Int32) (h : Int32) (S : v_Sf) : v_Sf := (if (f_X11_within k (Int32.ofInt 4)) = 0 then S else (if (f_X11_within r (Int32.ofInt 99)) = 0 then S else (if ¬ (f_X11_within h (Int32.ofInt 1023)) = 0 then z_s (z_s (z_s S 94 0 ((S 94 0) ||| ((Int32.ofInt 1) <<< (k &&& 31)))) 95 k.toInt.toNat r) 96 k.toInt.toNat h else S)))
set_option maxRecDepth 4000 in
theorem c_X11_house (L : Nat) (xs : Nat → Int32) (n d : Nat) (k : Int32) (r : Int32) (h : Int32) (S : v_Sf) (R : v_Rf) : u_P L xs n d m_X11_house 0 (lv_args 0 [.ref 1, .int k, .int r, .int h]) [] S R (z_Q R (fun v S1 => f_X11_house k r h S = v ∧ g_X11_house k r h S = S1)) := by
  show u_P L xs n d m_X11_house 0 [(0, .ref 1), (1, .int k), (2, .int r), (3, .int h)] [] S R _
  refine u_st rfl (fun _ => rfl) ?_
  refine u_st rfl (fun _ => rfl) ?_
  show u_P L xs n d m_X11_house 2 [(0, .ref 1), (1, .int k), (2, .int r), (3, .int h)] [.int (Int32.ofInt 4), .int k] S R _
  refine u_cs (ac := [.int k, .int (Int32.ofInt 4)]) (rest := []) rfl (by decide) mt_X11_within (fun _ => rfl) (Nat.le_of_ble_eq_true rfl) (Nat.le_of_ble_eq_true rfl) (fun d' => c_X11_within L xs n d' k (Int32.ofInt 4) S R) ?_
  rintro _ _ _ ⟨_, rfl, rfl, rfl, rfl⟩
  show u_P L xs n d m_X11_house 5 [(0, .ref 1), (1, .int k), (2, .int r), (3, .int h)] [.int (f_X11_within k (Int32.ofInt 4))] S R _
  refine u_if_eq rfl (fun h1 => ?_) (fun h1 => ?_)
  · show u_P L xs n d m_X11_house 27 [(0, .ref 1), (1, .int k), (2, .int r), (3, .int h)] [] S R _
    refine u_st rfl (fun _ => rfl) ?_
    show u_P L xs n d m_X11_house 28 [(0, .ref 1), (1, .int k), (2, .int r), (3, .int h)] [.int (Int32.ofInt 0)] S R _
    exact u_retb rfl rfl ⟨_, rfl, rfl, by rw [f_X11_house, if_pos h1], by rw [g_X11_house, if_pos h1]⟩
  · show u_P L xs n d m_X11_house 8 [(0, .ref 1), (1, .int k), (2, .int r), (3, .int h)] [] S R _
    refine u_st rfl (fun _ => rfl) ?_
    refine u_st rfl (fun _ => rfl) ?_
    show u_P L xs n d m_X11_house 11 [(0, .ref 1), (1, .int k), (2, .int r), (3, .int h)] [.int (Int32.ofInt 99), .int r] S R _
    refine u_cs (ac := [.int r, .int (Int32.ofInt 99)]) (rest := []) rfl (by decide) mt_X11_within (fun _ => rfl) (Nat.le_of_ble_eq_true rfl) (Nat.le_of_ble_eq_true rfl) (fun d' => c_X11_within L xs n d' r (Int32.ofInt 99) S R) ?_
    rintro _ _ _ ⟨_, rfl, rfl, rfl, rfl⟩
    show u_P L xs n d m_X11_house 14 [(0, .ref 1), (1, .int k), (2, .int r), (3, .int h)] [.int (f_X11_within r (Int32.ofInt 99))] S R _
    refine u_if_eq rfl (fun h2 => ?_) (fun h2 => ?_)
    · show u_P L xs n d m_X11_house 27 [(0, .ref 1), (1, .int k), (2, .int r), (3, .int h)] [] S R _
      refine u_st rfl (fun _ => rfl) ?_
      show u_P L xs n d m_X11_house 28 [(0, .ref 1), (1, .int k), (2, .int r), (3, .int h)] [.int (Int32.ofInt 0)] S R _
      exact u_retb rfl rfl ⟨_, rfl, rfl, by rw [f_X11_house, if_neg h1, if_pos h2], by rw [g_X11_house, if_neg h1, if_pos h2]⟩
    · show u_P L xs n d m_X11_house 17 [(0, .ref 1), (1, .int k), (2, .int r), (3, .int h)] [] S R _
      refine u_st rfl (fun _ => rfl) ?_
      refine u_st rfl (fun _ => rfl) ?_
      show u_P L xs n d m_X11_house 21 [(0, .ref 1), (1, .int k), (2, .int r), (3, .int h)] [.int (Int32.ofInt 1023), .int h] S R _
      refine u_cs (ac := [.int h, .int (Int32.ofInt 1023)]) (rest := []) rfl (by decide) mt_X11_within (fun _ => rfl) (Nat.le_of_ble_eq_true rfl) (Nat.le_of_ble_eq_true rfl) (fun d' => c_X11_within L xs n d' h (Int32.ofInt 1023) S R) ?_
      rintro _ _ _ ⟨_, rfl, rfl, rfl, rfl⟩
      show u_P L xs n d m_X11_house 24 [(0, .ref 1), (1, .int k), (2, .int r), (3, .int h)] [.int (f_X11_within h (Int32.ofInt 1023))] S R _
      refine u_if_ne rfl (fun h3 => ?_) (fun h3 => ?_)
      · show u_P L xs n d m_X11_house 29 [(0, .ref 1), (1, .int k), (2, .int r), (3, .int h)] [] S R _
        refine u_st rfl (fun _ => rfl) ?_
        show u_P L xs n d m_X11_house 30 [(0, .ref 1), (1, .int k), (2, .int r), (3, .int h)] [.ref 1] S R _
        refine u_getr rfl v_tyC rfl ?_
        refine u_st rfl (fun _ => rfl) ?_
        show u_P L xs n d m_X11_house 34 [(0, .ref 1), (1, .int k), (2, .int r), (3, .int h)] [.ref 95, .ref 95] S R _
        refine u_getE (v := S 94 0) rfl rfl rfl rfl ?_
        refine u_st rfl (fun _ => rfl) ?_
        refine u_st rfl (fun _ => rfl) ?_
        refine u_st rfl (fun _ => rfl) ?_
        refine u_st rfl (fun _ => rfl) ?_
        show u_P L xs n d m_X11_house 41 [(0, .ref 1), (1, .int k), (2, .int r), (3, .int h)] [.int ((S 94 0) ||| ((Int32.ofInt 1) <<< (k &&& 31))), .ref 95] S R _
        refine u_put rfl rfl rfl ?_
        refine u_st rfl (fun _ => rfl) ?_
        show u_P L xs n d m_X11_house 45 [(0, .ref 1), (1, .int k), (2, .int r), (3, .int h)] [.ref 1] (z_s S 94 0 ((S 94 0) ||| ((Int32.ofInt 1) <<< (k &&& 31)))) R _
        refine u_getr rfl v_tyC rfl ?_
        show u_P L xs n d m_X11_house 48 [(0, .ref 1), (1, .int k), (2, .int r), (3, .int h)] [.ref 95] (z_s S 94 0 ((S 94 0) ||| ((Int32.ofInt 1) <<< (k &&& 31)))) R _
        refine u_getr rfl rfl rfl ?_
        refine u_st rfl (fun _ => rfl) ?_
        refine u_st rfl (fun _ => rfl) ?_
        show u_P L xs n d m_X11_house 53 [(0, .ref 1), (1, .int k), (2, .int r), (3, .int h)] [.int r, .int k, .ref 96] (z_s S 94 0 ((S 94 0) ||| ((Int32.ofInt 1) <<< (k &&& 31)))) R _
        refine u_iast rfl rfl (fun b41 b42 => ?_)
        refine u_st rfl (fun _ => rfl) ?_
        show u_P L xs n d m_X11_house 55 [(0, .ref 1), (1, .int k), (2, .int r), (3, .int h)] [.ref 1] (z_s (z_s S 94 0 ((S 94 0) ||| ((Int32.ofInt 1) <<< (k &&& 31)))) 95 k.toInt.toNat r) R _
        refine u_getr rfl v_tyC rfl ?_
        show u_P L xs n d m_X11_house 58 [(0, .ref 1), (1, .int k), (2, .int r), (3, .int h)] [.ref 95] (z_s (z_s S 94 0 ((S 94 0) ||| ((Int32.ofInt 1) <<< (k &&& 31)))) 95 k.toInt.toNat r) R _
        refine u_getr rfl rfl rfl ?_
        refine u_st rfl (fun _ => rfl) ?_
        refine u_st rfl (fun _ => rfl) ?_
        show u_P L xs n d m_X11_house 63 [(0, .ref 1), (1, .int k), (2, .int r), (3, .int h)] [.int h, .int k, .ref 97] (z_s (z_s S 94 0 ((S 94 0) ||| ((Int32.ofInt 1) <<< (k &&& 31)))) 95 k.toInt.toNat r) R _
        refine u_iast rfl rfl (fun b51 b52 => ?_)
        refine u_st rfl (fun _ => rfl) ?_
        show u_P L xs n d m_X11_house 65 [(0, .ref 1), (1, .int k), (2, .int r), (3, .int h)] [.int (Int32.ofInt 1)] (z_s (z_s (z_s S 94 0 ((S 94 0) ||| ((Int32.ofInt 1) <<< (k &&& 31)))) 95 k.toInt.toNat r) 96 k.toInt.toNat h) R _
        exact u_retb rfl rfl ⟨_, rfl, rfl, by rw [f_X11_house, if_neg h1, if_neg h2, if_pos h3], by rw [g_X11_house, if_neg h1, if_neg h2, if_pos h3]⟩
      · show u_P L xs n d m_X11_house 27 [(0, .ref 1), (1, .int k), (2, .int r), (3, .int h)] [] S R _
        refine u_st rfl (fun _ => rfl) ?_
        show u_P L xs n d m_X11_house 28 [(0, .ref 1), (1, .int k), (2, .int r), (3, .int h)] [.int (Int32.ofInt 0)] S R _
        exact u_retb rfl rfl ⟨_, rfl, rfl, by rw [f_X11_house, if_neg h1, if_neg h2, if_neg h3], by rw [g_X11_house, if_neg h1, if_neg h2, if_neg h3]⟩
noncomputable abbrev m_X11_gustIs : g_M := (g_cn 11, yX11_gustIs, cX11_gustIs, 3, (some .int), g_look2 ttX11_gustIs)
set_option maxRecDepth 20000 in
theorem mt_X11_gustIs : g_mt 128 = some m_X11_gustIs := rfl
noncomputable def f_X11_gustIs (g : Int32) (a : Int32) (S : v_Sf) : Int32 := (if ¬ (f_X7_hasGust 1 g S) = 0 then (if a = Int32.ofInt 0 then S 2 g.toInt.toNat else (if a = Int32.ofInt 1 then (if ¬ (S 3 g.toInt.toNat) = (Int32.ofInt 8) then S 3 g.toInt.toNat else Int32.ofInt (-2)) else (if a = Int32.ofInt 2 then S 4 g.toInt.toNat else (if a = Int32.ofInt 3 then S 5 g.toInt.toNat else (if a = Int32.ofInt 4 then S 6 g.toInt.toNat else (if a = Int32.ofInt 5 then S 7 g.toInt.toNat else Int32.ofInt (-1))))))) else Int32.ofInt (-1))
set_option maxRecDepth 4000 in
theorem c_X11_gustIs (L : Nat) (xs : Nat → Int32) (n d : Nat) (g : Int32) (a : Int32) (S : v_Sf) (R : v_Rf) : u_P L xs n d m_X11_gustIs 0 (lv_args 0 [.ref 1, .int g, .int a]) [] S R (z_Q R (fun v S1 => f_X11_gustIs g a S = v ∧ S = S1)) := by
  show u_P L xs n d m_X11_gustIs 0 [(0, .ref 1), (1, .int g), (2, .int a)] [] S R _
  refine u_st rfl (fun _ => rfl) ?_
  show u_P L xs n d m_X11_gustIs 1 [(0, .ref 1), (1, .int g), (2, .int a)] [.ref 1] S R _
  refine u_getr rfl v_tyC rfl ?_
  refine u_st rfl (fun _ => rfl) ?_
  show u_P L xs n d m_X11_gustIs 5 [(0, .ref 1), (1, .int g), (2, .int a)] [.int g, .ref 2] S R _
  refine u_cv (rest := []) rfl (by decide) mt_X7_hasGust rfl rfl rfl rfl (Nat.le_of_ble_eq_true rfl) (Nat.le_of_ble_eq_true rfl) (Nat.le_of_ble_eq_true rfl) (fun d' => c_X7_hasGust L xs n d' 1 (Or.inl rfl) g S R) ?_
  rintro _ _ _ ⟨_, rfl, rfl, rfl, rfl⟩
  show u_P L xs n d m_X11_gustIs 8 [(0, .ref 1), (1, .int g), (2, .int a)] [.int (f_X7_hasGust 1 g S)] S R _
  refine u_if_ne rfl (fun h1 => ?_) (fun h1 => ?_)
  · show u_P L xs n d m_X11_gustIs 13 [(0, .ref 1), (1, .int g), (2, .int a)] [] S R _
    refine u_st rfl (fun _ => rfl) ?_
    show u_P L xs n d m_X11_gustIs 14 [(0, .ref 1), (1, .int g), (2, .int a)] [.int a] S R _
    by_cases h2_0 : a = Int32.ofInt 0
    · refine u_jm (t := 52) (sc1 := []) rfl rfl rfl (by rw [h2_0]; rfl) ?_
      show u_P L xs n d m_X11_gustIs 52 [(0, .ref 1), (1, .int g), (2, .int a)] [] S R _
      refine u_st rfl (fun _ => rfl) ?_
      show u_P L xs n d m_X11_gustIs 53 [(0, .ref 1), (1, .int g), (2, .int a)] [.ref 1] S R _
      refine u_getr rfl v_tyC rfl ?_
      show u_P L xs n d m_X11_gustIs 56 [(0, .ref 1), (1, .int g), (2, .int a)] [.ref 2] S R _
      refine u_getr rfl rfl rfl ?_
      refine u_st rfl (fun _ => rfl) ?_
      show u_P L xs n d m_X11_gustIs 60 [(0, .ref 1), (1, .int g), (2, .int a)] [.int g, .ref 3] S R _
      refine u_ialdE (v := S 2 g.toInt.toNat) rfl rfl rfl (fun b31 b32 => ?_)
      show u_P L xs n d m_X11_gustIs 61 [(0, .ref 1), (1, .int g), (2, .int a)] [.int (S 2 g.toInt.toNat)] S R _
      exact u_ret rfl rfl ⟨_, rfl, rfl, by rw [f_X11_gustIs, if_pos h1, if_pos h2_0], rfl⟩
    · by_cases h2_1 : a = Int32.ofInt 1
      · refine u_jm (t := 62) (sc1 := []) rfl rfl rfl (by rw [h2_1]; rfl) ?_
        show u_P L xs n d m_X11_gustIs 62 [(0, .ref 1), (1, .int g), (2, .int a)] [] S R _
        refine u_st rfl (fun _ => rfl) ?_
        show u_P L xs n d m_X11_gustIs 63 [(0, .ref 1), (1, .int g), (2, .int a)] [.ref 1] S R _
        refine u_getr rfl v_tyC rfl ?_
        show u_P L xs n d m_X11_gustIs 66 [(0, .ref 1), (1, .int g), (2, .int a)] [.ref 2] S R _
        refine u_getr rfl rfl rfl ?_
        refine u_st rfl (fun _ => rfl) ?_
        show u_P L xs n d m_X11_gustIs 70 [(0, .ref 1), (1, .int g), (2, .int a)] [.int g, .ref 4] S R _
        refine u_ialdE (v := S 3 g.toInt.toNat) rfl rfl rfl (fun b41 b42 => ?_)
        refine u_st rfl (fun _ => rfl) ?_
        show u_P L xs n d m_X11_gustIs 73 [(0, .ref 1), (1, .int g), (2, .int a)] [.int (Int32.ofInt 8), .int (S 3 g.toInt.toNat)] S R _
        refine u_ic_ne rfl (fun h5 => ?_) (fun h5 => ?_)
        · show u_P L xs n d m_X11_gustIs 81 [(0, .ref 1), (1, .int g), (2, .int a)] [] S R _
          refine u_st rfl (fun _ => rfl) ?_
          show u_P L xs n d m_X11_gustIs 82 [(0, .ref 1), (1, .int g), (2, .int a)] [.ref 1] S R _
          refine u_getr rfl v_tyC rfl ?_
          show u_P L xs n d m_X11_gustIs 85 [(0, .ref 1), (1, .int g), (2, .int a)] [.ref 2] S R _
          refine u_getr rfl rfl rfl ?_
          refine u_st rfl (fun _ => rfl) ?_
          show u_P L xs n d m_X11_gustIs 89 [(0, .ref 1), (1, .int g), (2, .int a)] [.int g, .ref 4] S R _
          refine u_ialdE (v := S 3 g.toInt.toNat) rfl rfl rfl (fun b61 b62 => ?_)
          show u_P L xs n d m_X11_gustIs 90 [(0, .ref 1), (1, .int g), (2, .int a)] [.int (S 3 g.toInt.toNat)] S R _
          exact u_ret rfl rfl ⟨_, rfl, rfl, by rw [f_X11_gustIs, if_pos h1, if_neg h2_0, if_pos h2_1, if_pos h5], rfl⟩
        · show u_P L xs n d m_X11_gustIs 76 [(0, .ref 1), (1, .int g), (2, .int a)] [] S R _
          refine u_st rfl (fun _ => rfl) ?_
          refine u_st rfl (fun _ => rfl) ?_
          show u_P L xs n d m_X11_gustIs 90 [(0, .ref 1), (1, .int g), (2, .int a)] [.int (Int32.ofInt (-2))] S R _
          exact u_ret rfl rfl ⟨_, rfl, rfl, by rw [f_X11_gustIs, if_pos h1, if_neg h2_0, if_pos h2_1, if_neg h5], rfl⟩
      · by_cases h2_2 : a = Int32.ofInt 2
        · refine u_jm (t := 91) (sc1 := []) rfl rfl rfl (by rw [h2_2]; rfl) ?_
          show u_P L xs n d m_X11_gustIs 91 [(0, .ref 1), (1, .int g), (2, .int a)] [] S R _
          refine u_st rfl (fun _ => rfl) ?_
          show u_P L xs n d m_X11_gustIs 92 [(0, .ref 1), (1, .int g), (2, .int a)] [.ref 1] S R _
          refine u_getr rfl v_tyC rfl ?_
          show u_P L xs n d m_X11_gustIs 95 [(0, .ref 1), (1, .int g), (2, .int a)] [.ref 2] S R _
          refine u_getr rfl rfl rfl ?_
          refine u_st rfl (fun _ => rfl) ?_
          show u_P L xs n d m_X11_gustIs 99 [(0, .ref 1), (1, .int g), (2, .int a)] [.int g, .ref 5] S R _
          refine u_ialdE (v := S 4 g.toInt.toNat) rfl rfl rfl (fun b71 b72 => ?_)
          show u_P L xs n d m_X11_gustIs 100 [(0, .ref 1), (1, .int g), (2, .int a)] [.int (S 4 g.toInt.toNat)] S R _
          exact u_ret rfl rfl ⟨_, rfl, rfl, by rw [f_X11_gustIs, if_pos h1, if_neg h2_0, if_neg h2_1, if_pos h2_2], rfl⟩
        · by_cases h2_3 : a = Int32.ofInt 3
          · refine u_jm (t := 101) (sc1 := []) rfl rfl rfl (by rw [h2_3]; rfl) ?_
            show u_P L xs n d m_X11_gustIs 101 [(0, .ref 1), (1, .int g), (2, .int a)] [] S R _
            refine u_st rfl (fun _ => rfl) ?_
            show u_P L xs n d m_X11_gustIs 102 [(0, .ref 1), (1, .int g), (2, .int a)] [.ref 1] S R _
            refine u_getr rfl v_tyC rfl ?_
            show u_P L xs n d m_X11_gustIs 105 [(0, .ref 1), (1, .int g), (2, .int a)] [.ref 2] S R _
            refine u_getr rfl rfl rfl ?_
            refine u_st rfl (fun _ => rfl) ?_
            show u_P L xs n d m_X11_gustIs 109 [(0, .ref 1), (1, .int g), (2, .int a)] [.int g, .ref 6] S R _
            refine u_ialdE (v := S 5 g.toInt.toNat) rfl rfl rfl (fun b81 b82 => ?_)
            show u_P L xs n d m_X11_gustIs 110 [(0, .ref 1), (1, .int g), (2, .int a)] [.int (S 5 g.toInt.toNat)] S R _
            exact u_ret rfl rfl ⟨_, rfl, rfl, by rw [f_X11_gustIs, if_pos h1, if_neg h2_0, if_neg h2_1, if_neg h2_2, if_pos h2_3], rfl⟩
          · by_cases h2_4 : a = Int32.ofInt 4
            · refine u_jm (t := 111) (sc1 := []) rfl rfl rfl (by rw [h2_4]; rfl) ?_
              show u_P L xs n d m_X11_gustIs 111 [(0, .ref 1), (1, .int g), (2, .int a)] [] S R _
              refine u_st rfl (fun _ => rfl) ?_
              show u_P L xs n d m_X11_gustIs 112 [(0, .ref 1), (1, .int g), (2, .int a)] [.ref 1] S R _
              refine u_getr rfl v_tyC rfl ?_
              show u_P L xs n d m_X11_gustIs 115 [(0, .ref 1), (1, .int g), (2, .int a)] [.ref 2] S R _
              refine u_getr rfl rfl rfl ?_
              refine u_st rfl (fun _ => rfl) ?_
              show u_P L xs n d m_X11_gustIs 119 [(0, .ref 1), (1, .int g), (2, .int a)] [.int g, .ref 7] S R _
              refine u_ialdE (v := S 6 g.toInt.toNat) rfl rfl rfl (fun b91 b92 => ?_)
              show u_P L xs n d m_X11_gustIs 120 [(0, .ref 1), (1, .int g), (2, .int a)] [.int (S 6 g.toInt.toNat)] S R _
              exact u_ret rfl rfl ⟨_, rfl, rfl, by rw [f_X11_gustIs, if_pos h1, if_neg h2_0, if_neg h2_1, if_neg h2_2, if_neg h2_3, if_pos h2_4], rfl⟩
            · by_cases h2_5 : a = Int32.ofInt 5
              · refine u_jm (t := 121) (sc1 := []) rfl rfl rfl (by rw [h2_5]; rfl) ?_
                show u_P L xs n d m_X11_gustIs 121 [(0, .ref 1), (1, .int g), (2, .int a)] [] S R _
                refine u_st rfl (fun _ => rfl) ?_
                show u_P L xs n d m_X11_gustIs 122 [(0, .ref 1), (1, .int g), (2, .int a)] [.ref 1] S R _
                refine u_getr rfl v_tyC rfl ?_
                show u_P L xs n d m_X11_gustIs 125 [(0, .ref 1), (1, .int g), (2, .int a)] [.ref 2] S R _
                refine u_getr rfl rfl rfl ?_
                refine u_st rfl (fun _ => rfl) ?_
                show u_P L xs n d m_X11_gustIs 129 [(0, .ref 1), (1, .int g), (2, .int a)] [.int g, .ref 8] S R _
                refine u_ialdE (v := S 7 g.toInt.toNat) rfl rfl rfl (fun b101 b102 => ?_)
                show u_P L xs n d m_X11_gustIs 130 [(0, .ref 1), (1, .int g), (2, .int a)] [.int (S 7 g.toInt.toNat)] S R _
                exact u_ret rfl rfl ⟨_, rfl, rfl, by rw [f_X11_gustIs, if_pos h1, if_neg h2_0, if_neg h2_1, if_neg h2_2, if_neg h2_3, if_neg h2_4, if_pos h2_5], rfl⟩
              · refine u_jm (t := 131) (sc1 := []) rfl rfl rfl (by rw [g_jmp]; rw [if_pos (by have := z_ne h2_0; have := z_ne h2_1; have := z_ne h2_2; have := z_ne h2_3; have := z_ne h2_4; have := z_ne h2_5; omega)]; rfl) ?_
                show u_P L xs n d m_X11_gustIs 131 [(0, .ref 1), (1, .int g), (2, .int a)] [] S R _
                refine u_st rfl (fun _ => rfl) ?_
                show u_P L xs n d m_X11_gustIs 132 [(0, .ref 1), (1, .int g), (2, .int a)] [.int (Int32.ofInt (-1))] S R _
                exact u_ret rfl rfl ⟨_, rfl, rfl, by rw [f_X11_gustIs, if_pos h1, if_neg h2_0, if_neg h2_1, if_neg h2_2, if_neg h2_3, if_neg h2_4, if_neg h2_5], rfl⟩
  · show u_P L xs n d m_X11_gustIs 11 [(0, .ref 1), (1, .int g), (2, .int a)] [] S R _
    refine u_st rfl (fun _ => rfl) ?_
    show u_P L xs n d m_X11_gustIs 12 [(0, .ref 1), (1, .int g), (2, .int a)] [.int (Int32.ofInt (-1))] S R _
    exact u_ret rfl rfl ⟨_, rfl, rfl, by rw [f_X11_gustIs, if_neg h1], rfl⟩
noncomputable abbrev m_X11_nurseIs : g_M := (g_cn 11, yX11_nurseIs, cX11_nurseIs, 3, (some .int), g_look2 ttX11_nurseIs)
set_option maxRecDepth 20000 in
theorem mt_X11_nurseIs : g_mt 130 = some m_X11_nurseIs := rfl
noncomputable def f_X11_nurseIs (k : Int32) (a : Int32) (S : v_Sf) : Int32 := (if ¬ (f_X7_hasNurse 1 k S) = 0 then (if a = Int32.ofInt 0 then S 8 k.toInt.toNat else (if a = Int32.ofInt 1 then S 9 k.toInt.toNat else Int32.ofInt (-1))) else Int32.ofInt (-1))
set_option maxRecDepth 4000 in
theorem c_X11_nurseIs (L : Nat) (xs : Nat → Int32) (n d : Nat) (k : Int32) (a : Int32) (S : v_Sf) (R : v_Rf) : u_P L xs n d m_X11_nurseIs 0 (lv_args 0 [.ref 1, .int k, .int a]) [] S R (z_Q R (fun v S1 => f_X11_nurseIs k a S = v ∧ S = S1)) := by
  show u_P L xs n d m_X11_nurseIs 0 [(0, .ref 1), (1, .int k), (2, .int a)] [] S R _
  refine u_st rfl (fun _ => rfl) ?_
  show u_P L xs n d m_X11_nurseIs 1 [(0, .ref 1), (1, .int k), (2, .int a)] [.ref 1] S R _
  refine u_getr rfl v_tyC rfl ?_
  refine u_st rfl (fun _ => rfl) ?_
  show u_P L xs n d m_X11_nurseIs 5 [(0, .ref 1), (1, .int k), (2, .int a)] [.int k, .ref 2] S R _
  refine u_cv (rest := []) rfl (by decide) mt_X7_hasNurse rfl rfl rfl rfl (Nat.le_of_ble_eq_true rfl) (Nat.le_of_ble_eq_true rfl) (Nat.le_of_ble_eq_true rfl) (fun d' => c_X7_hasNurse L xs n d' 1 (Or.inl rfl) k S R) ?_
  rintro _ _ _ ⟨_, rfl, rfl, rfl, rfl⟩
  show u_P L xs n d m_X11_nurseIs 8 [(0, .ref 1), (1, .int k), (2, .int a)] [.int (f_X7_hasNurse 1 k S)] S R _
  refine u_if_ne rfl (fun h1 => ?_) (fun h1 => ?_)
  · show u_P L xs n d m_X11_nurseIs 13 [(0, .ref 1), (1, .int k), (2, .int a)] [] S R _
    refine u_st rfl (fun _ => rfl) ?_
    show u_P L xs n d m_X11_nurseIs 14 [(0, .ref 1), (1, .int k), (2, .int a)] [.int a] S R _
    by_cases h2_0 : a = Int32.ofInt 0
    · refine u_jm (t := 40) (sc1 := []) rfl rfl rfl (by rw [h2_0]; rfl) ?_
      show u_P L xs n d m_X11_nurseIs 40 [(0, .ref 1), (1, .int k), (2, .int a)] [] S R _
      refine u_st rfl (fun _ => rfl) ?_
      show u_P L xs n d m_X11_nurseIs 41 [(0, .ref 1), (1, .int k), (2, .int a)] [.ref 1] S R _
      refine u_getr rfl v_tyC rfl ?_
      show u_P L xs n d m_X11_nurseIs 44 [(0, .ref 1), (1, .int k), (2, .int a)] [.ref 2] S R _
      refine u_getr rfl rfl rfl ?_
      refine u_st rfl (fun _ => rfl) ?_
      show u_P L xs n d m_X11_nurseIs 48 [(0, .ref 1), (1, .int k), (2, .int a)] [.int k, .ref 9] S R _
      refine u_ialdE (v := S 8 k.toInt.toNat) rfl rfl rfl (fun b31 b32 => ?_)
      show u_P L xs n d m_X11_nurseIs 49 [(0, .ref 1), (1, .int k), (2, .int a)] [.int (S 8 k.toInt.toNat)] S R _
      exact u_ret rfl rfl ⟨_, rfl, rfl, by rw [f_X11_nurseIs, if_pos h1, if_pos h2_0], rfl⟩
    · by_cases h2_1 : a = Int32.ofInt 1
      · refine u_jm (t := 50) (sc1 := []) rfl rfl rfl (by rw [h2_1]; rfl) ?_
        show u_P L xs n d m_X11_nurseIs 50 [(0, .ref 1), (1, .int k), (2, .int a)] [] S R _
        refine u_st rfl (fun _ => rfl) ?_
        show u_P L xs n d m_X11_nurseIs 51 [(0, .ref 1), (1, .int k), (2, .int a)] [.ref 1] S R _
        refine u_getr rfl v_tyC rfl ?_
        show u_P L xs n d m_X11_nurseIs 54 [(0, .ref 1), (1, .int k), (2, .int a)] [.ref 2] S R _
        refine u_getr rfl rfl rfl ?_
        refine u_st rfl (fun _ => rfl) ?_
        show u_P L xs n d m_X11_nurseIs 58 [(0, .ref 1), (1, .int k), (2, .int a)] [.int k, .ref 10] S R _
        refine u_ialdE (v := S 9 k.toInt.toNat) rfl rfl rfl (fun b41 b42 => ?_)
        show u_P L xs n d m_X11_nurseIs 59 [(0, .ref 1), (1, .int k), (2, .int a)] [.int (S 9 k.toInt.toNat)] S R _
        exact u_ret rfl rfl ⟨_, rfl, rfl, by rw [f_X11_nurseIs, if_pos h1, if_neg h2_0, if_pos h2_1], rfl⟩
      · refine u_jm (t := 60) (sc1 := []) rfl rfl rfl (by simp [g_jmp, g_tg, Op.lookupswitch.offset, z_en h2_0, z_en h2_1]) ?_
        show u_P L xs n d m_X11_nurseIs 60 [(0, .ref 1), (1, .int k), (2, .int a)] [] S R _
        refine u_st rfl (fun _ => rfl) ?_
        show u_P L xs n d m_X11_nurseIs 61 [(0, .ref 1), (1, .int k), (2, .int a)] [.int (Int32.ofInt (-1))] S R _
        exact u_ret rfl rfl ⟨_, rfl, rfl, by rw [f_X11_nurseIs, if_pos h1, if_neg h2_0, if_neg h2_1], rfl⟩
  · show u_P L xs n d m_X11_nurseIs 11 [(0, .ref 1), (1, .int k), (2, .int a)] [] S R _
    refine u_st rfl (fun _ => rfl) ?_
    show u_P L xs n d m_X11_nurseIs 12 [(0, .ref 1), (1, .int k), (2, .int a)] [.int (Int32.ofInt (-1))] S R _
    exact u_ret rfl rfl ⟨_, rfl, rfl, by rw [f_X11_nurseIs, if_neg h1], rfl⟩
end PrtS42c
section PrtS42d
/-! the reference: methods without loops (by gen42.py) -/
noncomputable def f_X12_has (a : Int32) (b : Int32) : Int32 := (if ¬ ((a >>> (b &&& 31)) &&& (Int32.ofInt 1)) = (Int32.ofInt 1) then Int32.ofInt 0 else Int32.ofInt 1)
set_option maxRecDepth 4000 in
theorem c_X12_has (L : Nat) (xs : Nat → Int32) (n d : Nat) (a : Int32) (b : Int32) (S : v_Sf) (R : v_Rf) : u_P L xs n d m_X12_has 0 (lv_args 0 [.int a, .int b]) [] S R (z_Q R (fun v S1 => f_X12_has a b = v ∧ S = S1)) := by
  show u_P L xs n d m_X12_has 0 [(0, .int a), (1, .int b)] [] S R _
  refine u_st rfl (fun _ => rfl) ?_
  refine u_st rfl (fun _ => rfl) ?_
  refine u_st rfl (fun _ => rfl) ?_
  refine u_st rfl (fun _ => rfl) ?_
  refine u_st rfl (fun _ => rfl) ?_
  refine u_st rfl (fun _ => rfl) ?_
  show u_P L xs n d m_X12_has 6 [(0, .int a), (1, .int b)] [.int (Int32.ofInt 1), .int ((a >>> (b &&& 31)) &&& (Int32.ofInt 1))] S R _
  refine u_ic_ne rfl (fun h1 => ?_) (fun h1 => ?_)
  · show u_P L xs n d m_X12_has 13 [(0, .int a), (1, .int b)] [] S R _
    refine u_st rfl (fun _ => rfl) ?_
    show u_P L xs n d m_X12_has 14 [(0, .int a), (1, .int b)] [.int (Int32.ofInt 0)] S R _
    exact u_retb rfl rfl ⟨_, rfl, rfl, by rw [f_X12_has, if_pos h1], rfl⟩
  · show u_P L xs n d m_X12_has 9 [(0, .int a), (1, .int b)] [] S R _
    refine u_st rfl (fun _ => rfl) ?_
    refine u_st rfl (fun _ => rfl) ?_
    show u_P L xs n d m_X12_has 14 [(0, .int a), (1, .int b)] [.int (Int32.ofInt 1)] S R _
    exact u_retb rfl rfl ⟨_, rfl, rfl, by rw [f_X12_has, if_neg h1], rfl⟩
noncomputable abbrev m_X12_held : g_M := (g_cn 12, yX12_held, cX12_held, 2, (some .int), g_look2 ttX12_held)
set_option maxRecDepth 20000 in
theorem mt_X12_held : g_mt 163 = some m_X12_held := rfl
noncomputable def f_X12_held (a : Int32) (b : Int32) : Int32 := (if 0 ≤ a then (if a ≤ b then a else b) else Int32.ofInt 0)
set_option maxRecDepth 4000 in
theorem c_X12_held (L : Nat) (xs : Nat → Int32) (n d : Nat) (a : Int32) (b : Int32) (S : v_Sf) (R : v_Rf) : u_P L xs n d m_X12_held 0 (lv_args 0 [.int a, .int b]) [] S R (z_Q R (fun v S1 => f_X12_held a b = v ∧ S = S1)) := by
  show u_P L xs n d m_X12_held 0 [(0, .int a), (1, .int b)] [] S R _
  refine u_st rfl (fun _ => rfl) ?_
  show u_P L xs n d m_X12_held 1 [(0, .int a), (1, .int b)] [.int a] S R _
  refine u_if_ge rfl (fun h1 => ?_) (fun h1 => ?_)
  · show u_P L xs n d m_X12_held 8 [(0, .int a), (1, .int b)] [] S R _
    refine u_st rfl (fun _ => rfl) ?_
    refine u_st rfl (fun _ => rfl) ?_
    show u_P L xs n d m_X12_held 10 [(0, .int a), (1, .int b)] [.int b, .int a] S R _
    refine u_ic_le rfl (fun h2 => ?_) (fun h2 => ?_)
    · show u_P L xs n d m_X12_held 17 [(0, .int a), (1, .int b)] [] S R _
      refine u_st rfl (fun _ => rfl) ?_
      show u_P L xs n d m_X12_held 18 [(0, .int a), (1, .int b)] [.int a] S R _
      exact u_ret rfl rfl ⟨_, rfl, rfl, by rw [f_X12_held, if_pos h1, if_pos h2], rfl⟩
    · show u_P L xs n d m_X12_held 13 [(0, .int a), (1, .int b)] [] S R _
      refine u_st rfl (fun _ => rfl) ?_
      refine u_st rfl (fun _ => rfl) ?_
      show u_P L xs n d m_X12_held 18 [(0, .int a), (1, .int b)] [.int b] S R _
      exact u_ret rfl rfl ⟨_, rfl, rfl, by rw [f_X12_held, if_pos h1, if_neg h2], rfl⟩
  · show u_P L xs n d m_X12_held 4 [(0, .int a), (1, .int b)] [] S R _
    refine u_st rfl (fun _ => rfl) ?_
    refine u_st rfl (fun _ => rfl) ?_
    show u_P L xs n d m_X12_held 18 [(0, .int a), (1, .int b)] [.int (Int32.ofInt 0)] S R _
    exact u_ret rfl rfl ⟨_, rfl, rfl, by rw [f_X12_held, if_neg h1], rfl⟩
noncomputable def f_X12_byteAt (k : Int32) (S : v_Sf) : Int32 := (S 100 k.toInt.toNat) &&& (Int32.ofInt 255)
set_option maxRecDepth 4000 in
theorem c_X12_byteAt (L : Nat) (xs : Nat → Int32) (n d : Nat) (k : Int32) (S : v_Sf) (R : v_Rf) : u_P L xs n d m_X12_byteAt 0 (lv_args 0 [.ref 100, .int k]) [] S R (z_Q R (fun v S1 => f_X12_byteAt k S = v ∧ S = S1)) := by
  show u_P L xs n d m_X12_byteAt 0 [(0, .ref 100), (1, .int k)] [] S R _
  refine u_st rfl (fun _ => rfl) ?_
  show u_P L xs n d m_X12_byteAt 1 [(0, .ref 100), (1, .int k)] [.ref 100] S R _
  refine u_getr rfl v_tyM rfl ?_
  refine u_st rfl (fun _ => rfl) ?_
  show u_P L xs n d m_X12_byteAt 5 [(0, .ref 100), (1, .int k)] [.int k, .ref 101] S R _
  refine u_baldE (v := S 100 k.toInt.toNat) rfl rfl (by decide) rfl (fun b11 b12 => ?_)
  refine u_st rfl (fun _ => rfl) ?_
  refine u_st rfl (fun _ => rfl) ?_
  show u_P L xs n d m_X12_byteAt 10 [(0, .ref 100), (1, .int k)] [.int ((S 100 k.toInt.toNat) &&& (Int32.ofInt 255))] S R _
  exact u_ret rfl rfl ⟨_, rfl, rfl, rfl, rfl⟩
noncomputable def f_X12_here  (S : v_Sf) : Int32 := (if (S 99 4) ≤ (S 99 3) then Int32.ofInt 0 else (S 100 ((S 99 3).toInt.toNat)) &&& (Int32.ofInt 255))
set_option maxRecDepth 4000 in
theorem c_X12_here (L : Nat) (xs : Nat → Int32) (n d : Nat)  (S : v_Sf) (R : v_Rf) : u_P L xs n d m_X12_here 0 (lv_args 0 [.ref 100]) [] S R (z_Q R (fun v S1 => f_X12_here  S = v ∧ S = S1)) := by
  show u_P L xs n d m_X12_here 0 [(0, .ref 100)] [] S R _
  refine u_st rfl (fun _ => rfl) ?_
  show u_P L xs n d m_X12_here 1 [(0, .ref 100)] [.ref 100] S R _
  refine u_getE (v := S 99 3) rfl v_tyM rfl rfl ?_
  refine u_st rfl (fun _ => rfl) ?_
  show u_P L xs n d m_X12_here 5 [(0, .ref 100)] [.ref 100, .int (S 99 3)] S R _
  refine u_getE (v := S 99 4) rfl v_tyM rfl rfl ?_
  show u_P L xs n d m_X12_here 8 [(0, .ref 100)] [.int (S 99 4), .int (S 99 3)] S R _
  refine u_ic_ge rfl (fun h1 => ?_) (fun h1 => ?_)
  · show u_P L xs n d m_X12_here 27 [(0, .ref 100)] [] S R _
    refine u_st rfl (fun _ => rfl) ?_
    show u_P L xs n d m_X12_here 28 [(0, .ref 100)] [.int (Int32.ofInt 0)] S R _
    exact u_ret rfl rfl ⟨_, rfl, rfl, by rw [f_X12_here, if_pos h1], rfl⟩
  · show u_P L xs n d m_X12_here 11 [(0, .ref 100)] [] S R _
    refine u_st rfl (fun _ => rfl) ?_
    show u_P L xs n d m_X12_here 12 [(0, .ref 100)] [.ref 100] S R _
    refine u_getr rfl v_tyM rfl ?_
    refine u_st rfl (fun _ => rfl) ?_
    show u_P L xs n d m_X12_here 16 [(0, .ref 100)] [.ref 100, .ref 101] S R _
    refine u_getE (v := S 99 3) rfl v_tyM rfl rfl ?_
    show u_P L xs n d m_X12_here 19 [(0, .ref 100)] [.int (S 99 3), .ref 101] S R _
    refine u_baldE (v := S 100 ((S 99 3).toInt.toNat)) rfl rfl (by decide) rfl (fun b21 b22 => ?_)
    refine u_st rfl (fun _ => rfl) ?_
    refine u_st rfl (fun _ => rfl) ?_
    refine u_st rfl (fun _ => rfl) ?_
    show u_P L xs n d m_X12_here 28 [(0, .ref 100)] [.int ((S 100 ((S 99 3).toInt.toNat)) &&& (Int32.ofInt 255))] S R _
    exact u_ret rfl rfl ⟨_, rfl, rfl, by rw [f_X12_here, if_neg h1], rfl⟩
noncomputable def g_X12_wrongs (a : Int32) (b : Int32) (S : v_Sf) : v_Sf := (if 0 ≤ (S 99 5) then z_s S 99 5 (((Int32.ofInt (-1000)) * a) - b) else z_s S 99 5 (S 99 5))
set_option maxRecDepth 4000 in
theorem c_X12_wrongs (L : Nat) (xs : Nat → Int32) (n d : Nat) (a : Int32) (b : Int32) (S : v_Sf) (R : v_Rf) : u_P L xs n d m_X12_wrongs 0 (lv_args 0 [.ref 100, .int a, .int b]) [] S R (z_V R (fun S1 => g_X12_wrongs a b S = S1)) := by
  show u_P L xs n d m_X12_wrongs 0 [(0, .ref 100), (1, .int a), (2, .int b)] [] S R _
  refine u_st rfl (fun _ => rfl) ?_
  refine u_st rfl (fun _ => rfl) ?_
  show u_P L xs n d m_X12_wrongs 2 [(0, .ref 100), (1, .int a), (2, .int b)] [.ref 100, .ref 100] S R _
  refine u_getE (v := S 99 5) rfl v_tyM rfl rfl ?_
  show u_P L xs n d m_X12_wrongs 5 [(0, .ref 100), (1, .int a), (2, .int b)] [.int (S 99 5), .ref 100] S R _
  refine u_if_ge rfl (fun h1 => ?_) (fun h1 => ?_)
  · show u_P L xs n d m_X12_wrongs 15 [(0, .ref 100), (1, .int a), (2, .int b)] [.ref 100] S R _
    refine u_st rfl (fun _ => rfl) ?_
    refine u_st rfl (fun _ => rfl) ?_
    refine u_st rfl (fun _ => rfl) ?_
    refine u_st rfl (fun _ => rfl) ?_
    refine u_st rfl (fun _ => rfl) ?_
    show u_P L xs n d m_X12_wrongs 22 [(0, .ref 100), (1, .int a), (2, .int b)] [.int (((Int32.ofInt (-1000)) * a) - b), .ref 100] S R _
    refine u_put rfl v_tyM rfl ?_
    show u_P L xs n d m_X12_wrongs 25 [(0, .ref 100), (1, .int a), (2, .int b)] [] (z_s S 99 5 (((Int32.ofInt (-1000)) * a) - b)) R _
    exact u_ret rfl rfl ⟨rfl, rfl, by rw [g_X12_wrongs, if_pos h1]⟩
  · show u_P L xs n d m_X12_wrongs 8 [(0, .ref 100), (1, .int a), (2, .int b)] [.ref 100] S R _
    refine u_st rfl (fun _ => rfl) ?_
    show u_P L xs n d m_X12_wrongs 9 [(0, .ref 100), (1, .int a), (2, .int b)] [.ref 100, .ref 100] S R _
    refine u_getE (v := S 99 5) rfl v_tyM rfl rfl ?_
    refine u_st rfl (fun _ => rfl) ?_
    show u_P L xs n d m_X12_wrongs 22 [(0, .ref 100), (1, .int a), (2, .int b)] [.int (S 99 5), .ref 100] S R _
    refine u_put rfl v_tyM rfl ?_
    show u_P L xs n d m_X12_wrongs 25 [(0, .ref 100), (1, .int a), (2, .int b)] [] (z_s S 99 5 (S 99 5)) R _
    exact u_ret rfl rfl ⟨rfl, rfl, by rw [g_X12_wrongs, if_neg h1]⟩
noncomputable def f_X12_isGood  (S : v_Sf) : Int32 := (if ¬ (S 99 5) = 0 then Int32.ofInt 0 else Int32.ofInt 1)
set_option maxRecDepth 4000 in
theorem c_X12_isGood (L : Nat) (xs : Nat → Int32) (n d : Nat)  (S : v_Sf) (R : v_Rf) : u_P L xs n d m_X12_isGood 0 (lv_args 0 [.ref 100]) [] S R (z_Q R (fun v S1 => f_X12_isGood  S = v ∧ S = S1)) := by
  show u_P L xs n d m_X12_isGood 0 [(0, .ref 100)] [] S R _
  refine u_st rfl (fun _ => rfl) ?_
  show u_P L xs n d m_X12_isGood 1 [(0, .ref 100)] [.ref 100] S R _
  refine u_getE (v := S 99 5) rfl v_tyM rfl rfl ?_
  show u_P L xs n d m_X12_isGood 4 [(0, .ref 100)] [.int (S 99 5)] S R _
  refine u_if_ne rfl (fun h1 => ?_) (fun h1 => ?_)
  · show u_P L xs n d m_X12_isGood 11 [(0, .ref 100)] [] S R _
    refine u_st rfl (fun _ => rfl) ?_
    show u_P L xs n d m_X12_isGood 12 [(0, .ref 100)] [.int (Int32.ofInt 0)] S R _
    exact u_retb rfl rfl ⟨_, rfl, rfl, by rw [f_X12_isGood, if_pos h1], rfl⟩
  · show u_P L xs n d m_X12_isGood 7 [(0, .ref 100)] [] S R _
    refine u_st rfl (fun _ => rfl) ?_
    refine u_st rfl (fun _ => rfl) ?_
    show u_P L xs n d m_X12_isGood 12 [(0, .ref 100)] [.int (Int32.ofInt 1)] S R _
    exact u_retb rfl rfl ⟨_, rfl, rfl, by rw [f_X12_isGood, if_neg h1], rfl⟩
noncomputable def f_X12_seesDigit  (S : v_Sf) : Int32 := z_in ((f_X12_here S)) 48 57
set_option maxRecDepth 4000 in
theorem c_X12_seesDigit (L : Nat) (xs : Nat → Int32) (n d : Nat)  (S : v_Sf) (R : v_Rf) : u_P L xs n d m_X12_seesDigit 0 (lv_args 0 [.ref 100]) [] S R (z_Q R (fun v S1 => f_X12_seesDigit  S = v ∧ S = S1)) := by
  show u_P L xs n d m_X12_seesDigit 0 [(0, .ref 100)] [] S R _
  refine u_st rfl (fun _ => rfl) ?_
  show u_P L xs n d m_X12_seesDigit 1 [(0, .ref 100)] [.ref 100] S R _
  refine u_cv (rest := []) rfl (by decide) mt_X12_here v_tyM rfl rfl rfl (Nat.le_of_ble_eq_true rfl) (Nat.le_of_ble_eq_true rfl) (Nat.le_of_ble_eq_true rfl) (fun d' => c_X12_here L xs n d' S R) ?_
  rintro _ _ _ ⟨_, rfl, rfl, rfl, rfl⟩
  refine u_st rfl (fun _ => rfl) ?_
  refine u_st rfl (fun _ => rfl) ?_
  refine u_st rfl (fun _ => rfl) ?_
  show u_P L xs n d m_X12_seesDigit 11 [(0, .ref 100)] [.long (Int64.ofInt 57), .long (Int64.ofInt 48), .long ((f_X12_here S).toInt64)] S R _
  refine u_cs (ac := [.long ((f_X12_here S).toInt64), .long (Int64.ofInt 48), .long (Int64.ofInt 57)]) (rest := []) rfl (by decide) mt_X12_lies (fun _ => rfl) (Nat.le_of_ble_eq_true rfl) (Nat.le_of_ble_eq_true rfl) (fun d' => z_liesC L xs n d' ((f_X12_here S)) (Int64.ofInt 48) (Int64.ofInt 57) (lo := 48) (hi := 57) rfl rfl S R) ?_
  rintro _ _ _ ⟨_, rfl, rfl, rfl, rfl⟩
  show u_P L xs n d m_X12_seesDigit 14 [(0, .ref 100)] [.int (z_in ((f_X12_here S)) 48 57)] S R _
  exact u_retb rfl rfl ⟨_, rfl, rfl, rfl, rfl⟩
noncomputable def g_X12_begins (m : Int32) (S : v_Sf) : v_Sf := z_s (z_s (z_s (z_s S 99 1 (Int32.ofInt 0)) 99 3 (Int32.ofInt 0)) 99 4 m) 99 5 (Int32.ofInt 0)
set_option maxRecDepth 4000 in
theorem c_X12_begins (L : Nat) (xs : Nat → Int32) (n d : Nat) (m : Int32) (S : v_Sf) (R : v_Rf) : u_P L xs n d m_X12_begins 0 (lv_args 0 [.ref 100, .int m]) [] S R (z_V R (fun S1 => g_X12_begins m S = S1)) := by
  show u_P L xs n d m_X12_begins 0 [(0, .ref 100), (1, .int m)] [] S R _
  refine u_st rfl (fun _ => rfl) ?_
  refine u_st rfl (fun _ => rfl) ?_
  show u_P L xs n d m_X12_begins 2 [(0, .ref 100), (1, .int m)] [.int (Int32.ofInt 0), .ref 100] S R _
  refine u_put rfl v_tyM rfl ?_
  refine u_st rfl (fun _ => rfl) ?_
  refine u_st rfl (fun _ => rfl) ?_
  show u_P L xs n d m_X12_begins 7 [(0, .ref 100), (1, .int m)] [.int (Int32.ofInt 0), .ref 100] (z_s S 99 1 (Int32.ofInt 0)) R _
  refine u_put rfl v_tyM rfl ?_
  refine u_st rfl (fun _ => rfl) ?_
  refine u_st rfl (fun _ => rfl) ?_
  show u_P L xs n d m_X12_begins 12 [(0, .ref 100), (1, .int m)] [.int m, .ref 100] (z_s (z_s S 99 1 (Int32.ofInt 0)) 99 3 (Int32.ofInt 0)) R _
  refine u_put rfl v_tyM rfl ?_
  refine u_st rfl (fun _ => rfl) ?_
  refine u_st rfl (fun _ => rfl) ?_
  show u_P L xs n d m_X12_begins 17 [(0, .ref 100), (1, .int m)] [.int (Int32.ofInt 0), .ref 100] (z_s (z_s (z_s S 99 1 (Int32.ofInt 0)) 99 3 (Int32.ofInt 0)) 99 4 m) R _
  refine u_put rfl v_tyM rfl ?_
  show u_P L xs n d m_X12_begins 20 [(0, .ref 100), (1, .int m)] [] (z_s (z_s (z_s (z_s S 99 1 (Int32.ofInt 0)) 99 3 (Int32.ofInt 0)) 99 4 m) 99 5 (Int32.ofInt 0)) R _
  exact u_ret rfl rfl ⟨rfl, rfl, rfl⟩
noncomputable def g_X12_emit (a : Int32) (b : Int32) (S : v_Sf) : v_Sf := (if ¬ (f_X12_isGood S) = 0 then z_s (z_s (z_s S 111 ((S 99 7).toInt.toNat) a) 112 ((S 99 7).toInt.toNat) b) 99 7 ((S 99 7) + (Int32.ofInt 1)) else S)
set_option maxRecDepth 4000 in
theorem c_X12_emit (L : Nat) (xs : Nat → Int32) (n d : Nat) (a : Int32) (b : Int32) (S : v_Sf) (R : v_Rf) : u_P L xs n d m_X12_emit 0 (lv_args 0 [.ref 100, .int a, .int b]) [] S R (z_V R (fun S1 => g_X12_emit a b S = S1)) := by
  show u_P L xs n d m_X12_emit 0 [(0, .ref 100), (1, .int a), (2, .int b)] [] S R _
  refine u_st rfl (fun _ => rfl) ?_
  show u_P L xs n d m_X12_emit 1 [(0, .ref 100), (1, .int a), (2, .int b)] [.ref 100] S R _
  refine u_cv (rest := []) rfl (by decide) mt_X12_isGood v_tyM rfl rfl rfl (Nat.le_of_ble_eq_true rfl) (Nat.le_of_ble_eq_true rfl) (Nat.le_of_ble_eq_true rfl) (fun d' => c_X12_isGood L xs n d' S R) ?_
  rintro _ _ _ ⟨_, rfl, rfl, rfl, rfl⟩
  show u_P L xs n d m_X12_emit 4 [(0, .ref 100), (1, .int a), (2, .int b)] [.int (f_X12_isGood S)] S R _
  refine u_if_ne rfl (fun h1 => ?_) (fun h1 => ?_)
  · show u_P L xs n d m_X12_emit 8 [(0, .ref 100), (1, .int a), (2, .int b)] [] S R _
    refine u_st rfl (fun _ => rfl) ?_
    show u_P L xs n d m_X12_emit 9 [(0, .ref 100), (1, .int a), (2, .int b)] [.ref 100] S R _
    refine u_getr rfl v_tyM rfl ?_
    refine u_st rfl (fun _ => rfl) ?_
    show u_P L xs n d m_X12_emit 13 [(0, .ref 100), (1, .int a), (2, .int b)] [.ref 100, .ref 112] S R _
    refine u_getE (v := S 99 7) rfl v_tyM rfl rfl ?_
    refine u_st rfl (fun _ => rfl) ?_
    show u_P L xs n d m_X12_emit 17 [(0, .ref 100), (1, .int a), (2, .int b)] [.int a, .int (S 99 7), .ref 112] S R _
    refine u_iast rfl rfl (fun b21 b22 => ?_)
    refine u_st rfl (fun _ => rfl) ?_
    show u_P L xs n d m_X12_emit 19 [(0, .ref 100), (1, .int a), (2, .int b)] [.ref 100] (z_s S 111 ((S 99 7).toInt.toNat) a) R _
    refine u_getr rfl v_tyM rfl ?_
    refine u_st rfl (fun _ => rfl) ?_
    show u_P L xs n d m_X12_emit 23 [(0, .ref 100), (1, .int a), (2, .int b)] [.ref 100, .ref 113] (z_s S 111 ((S 99 7).toInt.toNat) a) R _
    refine u_getE (v := S 99 7) rfl v_tyM rfl (z_sn (fun h => absurd h.1 (by decide))) ?_
    refine u_st rfl (fun _ => rfl) ?_
    show u_P L xs n d m_X12_emit 27 [(0, .ref 100), (1, .int a), (2, .int b)] [.int b, .int (S 99 7), .ref 113] (z_s S 111 ((S 99 7).toInt.toNat) a) R _
    refine u_iast rfl rfl (fun b31 b32 => ?_)
    refine u_st rfl (fun _ => rfl) ?_
    refine u_st rfl (fun _ => rfl) ?_
    show u_P L xs n d m_X12_emit 30 [(0, .ref 100), (1, .int a), (2, .int b)] [.ref 100, .ref 100] (z_s (z_s S 111 ((S 99 7).toInt.toNat) a) 112 ((S 99 7).toInt.toNat) b) R _
    refine u_getE (v := S 99 7) rfl v_tyM rfl ((z_sn (fun h => absurd h.1 (by decide))).trans (z_sn (fun h => absurd h.1 (by decide)))) ?_
    refine u_st rfl (fun _ => rfl) ?_
    refine u_st rfl (fun _ => rfl) ?_
    show u_P L xs n d m_X12_emit 35 [(0, .ref 100), (1, .int a), (2, .int b)] [.int ((S 99 7) + (Int32.ofInt 1)), .ref 100] (z_s (z_s S 111 ((S 99 7).toInt.toNat) a) 112 ((S 99 7).toInt.toNat) b) R _
    refine u_put rfl v_tyM rfl ?_
    show u_P L xs n d m_X12_emit 38 [(0, .ref 100), (1, .int a), (2, .int b)] [] (z_s (z_s (z_s S 111 ((S 99 7).toInt.toNat) a) 112 ((S 99 7).toInt.toNat) b) 99 7 ((S 99 7) + (Int32.ofInt 1))) R _
    exact u_ret rfl rfl ⟨rfl, rfl, by rw [g_X12_emit, if_pos h1]⟩
  · show u_P L xs n d m_X12_emit 7 [(0, .ref 100), (1, .int a), (2, .int b)] [] S R _
    exact u_ret rfl rfl ⟨rfl, rfl, by rw [g_X12_emit, if_neg h1]⟩
noncomputable def f_X12_top  (S : v_Sf) : Int32 := (if (S 99 9) ≤ 0 then Int32.ofInt 0 else S 113 (((S 99 9) - (Int32.ofInt 1)).toInt.toNat))
set_option maxRecDepth 4000 in
theorem c_X12_top (L : Nat) (xs : Nat → Int32) (n d : Nat)  (S : v_Sf) (R : v_Rf) : u_P L xs n d m_X12_top 0 (lv_args 0 [.ref 100]) [] S R (z_Q R (fun v S1 => f_X12_top  S = v ∧ S = S1)) := by
  show u_P L xs n d m_X12_top 0 [(0, .ref 100)] [] S R _
  refine u_st rfl (fun _ => rfl) ?_
  show u_P L xs n d m_X12_top 1 [(0, .ref 100)] [.ref 100] S R _
  refine u_getE (v := S 99 9) rfl v_tyM rfl rfl ?_
  show u_P L xs n d m_X12_top 4 [(0, .ref 100)] [.int (S 99 9)] S R _
  refine u_if_le rfl (fun h1 => ?_) (fun h1 => ?_)
  · show u_P L xs n d m_X12_top 21 [(0, .ref 100)] [] S R _
    refine u_st rfl (fun _ => rfl) ?_
    show u_P L xs n d m_X12_top 22 [(0, .ref 100)] [.int (Int32.ofInt 0)] S R _
    exact u_ret rfl rfl ⟨_, rfl, rfl, by rw [f_X12_top, if_pos h1], rfl⟩
  · show u_P L xs n d m_X12_top 7 [(0, .ref 100)] [] S R _
    refine u_st rfl (fun _ => rfl) ?_
    show u_P L xs n d m_X12_top 8 [(0, .ref 100)] [.ref 100] S R _
    refine u_getr rfl v_tyM rfl ?_
    refine u_st rfl (fun _ => rfl) ?_
    show u_P L xs n d m_X12_top 12 [(0, .ref 100)] [.ref 100, .ref 114] S R _
    refine u_getE (v := S 99 9) rfl v_tyM rfl rfl ?_
    refine u_st rfl (fun _ => rfl) ?_
    refine u_st rfl (fun _ => rfl) ?_
    show u_P L xs n d m_X12_top 17 [(0, .ref 100)] [.int ((S 99 9) - (Int32.ofInt 1)), .ref 114] S R _
    refine u_ialdE (v := S 113 (((S 99 9) - (Int32.ofInt 1)).toInt.toNat)) rfl rfl rfl (fun b21 b22 => ?_)
    refine u_st rfl (fun _ => rfl) ?_
    show u_P L xs n d m_X12_top 22 [(0, .ref 100)] [.int (S 113 (((S 99 9) - (Int32.ofInt 1)).toInt.toNat))] S R _
    exact u_ret rfl rfl ⟨_, rfl, rfl, by rw [f_X12_top, if_neg h1], rfl⟩
noncomputable def g_X12_puts (a : Int32) (S : v_Sf) : v_Sf := z_s (z_s (z_s S 113 ((S 99 9).toInt.toNat) a) 99 9 ((S 99 9) + (Int32.ofInt 1))) 99 3 ((S 99 3) + (Int32.ofInt 1))
set_option maxRecDepth 4000 in
theorem c_X12_puts (L : Nat) (xs : Nat → Int32) (n d : Nat) (a : Int32) (S : v_Sf) (R : v_Rf) : u_P L xs n d m_X12_puts 0 (lv_args 0 [.ref 100, .int a]) [] S R (z_V R (fun S1 => g_X12_puts a S = S1)) := by
  show u_P L xs n d m_X12_puts 0 [(0, .ref 100), (1, .int a)] [] S R _
  refine u_st rfl (fun _ => rfl) ?_
  show u_P L xs n d m_X12_puts 1 [(0, .ref 100), (1, .int a)] [.ref 100] S R _
  refine u_getr rfl v_tyM rfl ?_
  refine u_st rfl (fun _ => rfl) ?_
  show u_P L xs n d m_X12_puts 5 [(0, .ref 100), (1, .int a)] [.ref 100, .ref 114] S R _
  refine u_getE (v := S 99 9) rfl v_tyM rfl rfl ?_
  refine u_st rfl (fun _ => rfl) ?_
  show u_P L xs n d m_X12_puts 9 [(0, .ref 100), (1, .int a)] [.int a, .int (S 99 9), .ref 114] S R _
  refine u_iast rfl rfl (fun b11 b12 => ?_)
  refine u_st rfl (fun _ => rfl) ?_
  refine u_st rfl (fun _ => rfl) ?_
  show u_P L xs n d m_X12_puts 12 [(0, .ref 100), (1, .int a)] [.ref 100, .ref 100] (z_s S 113 ((S 99 9).toInt.toNat) a) R _
  refine u_getE (v := S 99 9) rfl v_tyM rfl (z_sn (fun h => absurd h.1 (by decide))) ?_
  refine u_st rfl (fun _ => rfl) ?_
  refine u_st rfl (fun _ => rfl) ?_
  show u_P L xs n d m_X12_puts 17 [(0, .ref 100), (1, .int a)] [.int ((S 99 9) + (Int32.ofInt 1)), .ref 100] (z_s S 113 ((S 99 9).toInt.toNat) a) R _
  refine u_put rfl v_tyM rfl ?_
  refine u_st rfl (fun _ => rfl) ?_
  refine u_st rfl (fun _ => rfl) ?_
  show u_P L xs n d m_X12_puts 22 [(0, .ref 100), (1, .int a)] [.ref 100, .ref 100] (z_s (z_s S 113 ((S 99 9).toInt.toNat) a) 99 9 ((S 99 9) + (Int32.ofInt 1))) R _
  refine u_getE (v := S 99 3) rfl v_tyM rfl ((z_sn (fun h => absurd h.2 (by decide))).trans (z_sn (fun h => absurd h.1 (by decide)))) ?_
  refine u_st rfl (fun _ => rfl) ?_
  refine u_st rfl (fun _ => rfl) ?_
  show u_P L xs n d m_X12_puts 27 [(0, .ref 100), (1, .int a)] [.int ((S 99 3) + (Int32.ofInt 1)), .ref 100] (z_s (z_s S 113 ((S 99 9).toInt.toNat) a) 99 9 ((S 99 9) + (Int32.ofInt 1))) R _
  refine u_put rfl v_tyM rfl ?_
  show u_P L xs n d m_X12_puts 30 [(0, .ref 100), (1, .int a)] [] (z_s (z_s (z_s S 113 ((S 99 9).toInt.toNat) a) 99 9 ((S 99 9) + (Int32.ofInt 1))) 99 3 ((S 99 3) + (Int32.ofInt 1))) R _
  exact u_ret rfl rfl ⟨rfl, rfl, rfl⟩
noncomputable def g_X12_opens  (S : v_Sf) : v_Sf := (if ¬ (S 99 8) = (Int32.ofInt 6) then g_X12_puts (f_X12_here (z_s S 99 8 ((S 99 8) + (Int32.ofInt 1)))) (z_s S 99 8 ((S 99 8) + (Int32.ofInt 1))) else g_X12_puts (f_X12_here (z_s (g_X12_wrongs (Int32.ofInt 5) (S 99 3) S) 99 8 (((g_X12_wrongs (Int32.ofInt 5) (S 99 3) S) 99 8) + (Int32.ofInt 1)))) (z_s (g_X12_wrongs (Int32.ofInt 5) (S 99 3) S) 99 8 (((g_X12_wrongs (Int32.ofInt 5) (S 99 3) S) 99 8) + (Int32.ofInt 1))))
set_option maxRecDepth 4000 in
theorem c_X12_opens (L : Nat) (xs : Nat → Int32) (n d : Nat)  (S : v_Sf) (R : v_Rf) : u_P L xs n d m_X12_opens 0 (lv_args 0 [.ref 100]) [] S R (z_V R (fun S1 => g_X12_opens  S = S1)) := by
  show u_P L xs n d m_X12_opens 0 [(0, .ref 100)] [] S R _
  refine u_st rfl (fun _ => rfl) ?_
  show u_P L xs n d m_X12_opens 1 [(0, .ref 100)] [.ref 100] S R _
  refine u_getE (v := S 99 8) rfl v_tyM rfl rfl ?_
  refine u_st rfl (fun _ => rfl) ?_
  show u_P L xs n d m_X12_opens 6 [(0, .ref 100)] [.int (Int32.ofInt 6), .int (S 99 8)] S R _
  refine u_ic_ne rfl (fun h1 => ?_) (fun h1 => ?_)
  · show u_P L xs n d m_X12_opens 18 [(0, .ref 100)] [] S R _
    refine u_st rfl (fun _ => rfl) ?_
    refine u_st rfl (fun _ => rfl) ?_
    show u_P L xs n d m_X12_opens 20 [(0, .ref 100)] [.ref 100, .ref 100] S R _
    refine u_getE (v := S 99 8) rfl v_tyM rfl rfl ?_
    refine u_st rfl (fun _ => rfl) ?_
    refine u_st rfl (fun _ => rfl) ?_
    show u_P L xs n d m_X12_opens 25 [(0, .ref 100)] [.int ((S 99 8) + (Int32.ofInt 1)), .ref 100] S R _
    refine u_put rfl v_tyM rfl ?_
    refine u_st rfl (fun _ => rfl) ?_
    refine u_st rfl (fun _ => rfl) ?_
    show u_P L xs n d m_X12_opens 30 [(0, .ref 100)] [.ref 100, .ref 100] (z_s S 99 8 ((S 99 8) + (Int32.ofInt 1))) R _
    refine u_cv (rest := [.ref 100]) rfl (by decide) mt_X12_here v_tyM rfl rfl rfl (Nat.le_of_ble_eq_true rfl) (Nat.le_of_ble_eq_true rfl) (Nat.le_of_ble_eq_true rfl) (fun d' => c_X12_here L xs n d' (z_s S 99 8 ((S 99 8) + (Int32.ofInt 1))) R) ?_
    rintro _ _ _ ⟨_, rfl, rfl, rfl, rfl⟩
    show u_P L xs n d m_X12_opens 33 [(0, .ref 100)] [.int (f_X12_here (z_s S 99 8 ((S 99 8) + (Int32.ofInt 1)))), .ref 100] (z_s S 99 8 ((S 99 8) + (Int32.ofInt 1))) R _
    refine u_cv (rest := []) rfl (by decide) mt_X12_puts v_tyM rfl rfl rfl (Nat.le_of_ble_eq_true rfl) (Nat.le_of_ble_eq_true rfl) (Nat.le_of_ble_eq_true rfl) (fun d' => c_X12_puts L xs n d' (f_X12_here (z_s S 99 8 ((S 99 8) + (Int32.ofInt 1)))) (z_s S 99 8 ((S 99 8) + (Int32.ofInt 1))) R) ?_
    rintro _ _ _ ⟨rfl, rfl, rfl⟩
    show u_P L xs n d m_X12_opens 36 [(0, .ref 100)] [] (g_X12_puts (f_X12_here (z_s S 99 8 ((S 99 8) + (Int32.ofInt 1)))) (z_s S 99 8 ((S 99 8) + (Int32.ofInt 1)))) R _
    exact u_ret rfl rfl ⟨rfl, rfl, by rw [g_X12_opens, if_pos h1]⟩
  · show u_P L xs n d m_X12_opens 9 [(0, .ref 100)] [] S R _
    refine u_st rfl (fun _ => rfl) ?_
    refine u_st rfl (fun _ => rfl) ?_
    refine u_st rfl (fun _ => rfl) ?_
    show u_P L xs n d m_X12_opens 12 [(0, .ref 100)] [.ref 100, .int (Int32.ofInt 5), .ref 100] S R _
    refine u_getE (v := S 99 3) rfl v_tyM rfl rfl ?_
    show u_P L xs n d m_X12_opens 15 [(0, .ref 100)] [.int (S 99 3), .int (Int32.ofInt 5), .ref 100] S R _
    refine u_cv (rest := []) rfl (by decide) mt_X12_wrongs v_tyM rfl rfl rfl (Nat.le_of_ble_eq_true rfl) (Nat.le_of_ble_eq_true rfl) (Nat.le_of_ble_eq_true rfl) (fun d' => c_X12_wrongs L xs n d' (Int32.ofInt 5) (S 99 3) S R) ?_
    rintro _ _ _ ⟨rfl, rfl, rfl⟩
    refine u_st rfl (fun _ => rfl) ?_
    refine u_st rfl (fun _ => rfl) ?_
    show u_P L xs n d m_X12_opens 20 [(0, .ref 100)] [.ref 100, .ref 100] (g_X12_wrongs (Int32.ofInt 5) (S 99 3) S) R _
    refine u_getE (v := (g_X12_wrongs (Int32.ofInt 5) (S 99 3) S) 99 8) rfl v_tyM rfl rfl ?_
    refine u_st rfl (fun _ => rfl) ?_
    refine u_st rfl (fun _ => rfl) ?_
    show u_P L xs n d m_X12_opens 25 [(0, .ref 100)] [.int (((g_X12_wrongs (Int32.ofInt 5) (S 99 3) S) 99 8) + (Int32.ofInt 1)), .ref 100] (g_X12_wrongs (Int32.ofInt 5) (S 99 3) S) R _
    refine u_put rfl v_tyM rfl ?_
    refine u_st rfl (fun _ => rfl) ?_
    refine u_st rfl (fun _ => rfl) ?_
    show u_P L xs n d m_X12_opens 30 [(0, .ref 100)] [.ref 100, .ref 100] (z_s (g_X12_wrongs (Int32.ofInt 5) (S 99 3) S) 99 8 (((g_X12_wrongs (Int32.ofInt 5) (S 99 3) S) 99 8) + (Int32.ofInt 1))) R _
    refine u_cv (rest := [.ref 100]) rfl (by decide) mt_X12_here v_tyM rfl rfl rfl (Nat.le_of_ble_eq_true rfl) (Nat.le_of_ble_eq_true rfl) (Nat.le_of_ble_eq_true rfl) (fun d' => c_X12_here L xs n d' (z_s (g_X12_wrongs (Int32.ofInt 5) (S 99 3) S) 99 8 (((g_X12_wrongs (Int32.ofInt 5) (S 99 3) S) 99 8) + (Int32.ofInt 1))) R) ?_
    rintro _ _ _ ⟨_, rfl, rfl, rfl, rfl⟩
    show u_P L xs n d m_X12_opens 33 [(0, .ref 100)] [.int (f_X12_here (z_s (g_X12_wrongs (Int32.ofInt 5) (S 99 3) S) 99 8 (((g_X12_wrongs (Int32.ofInt 5) (S 99 3) S) 99 8) + (Int32.ofInt 1)))), .ref 100] (z_s (g_X12_wrongs (Int32.ofInt 5) (S 99 3) S) 99 8 (((g_X12_wrongs (Int32.ofInt 5) (S 99 3) S) 99 8) + (Int32.ofInt 1))) R _
    refine u_cv (rest := []) rfl (by decide) mt_X12_puts v_tyM rfl rfl rfl (Nat.le_of_ble_eq_true rfl) (Nat.le_of_ble_eq_true rfl) (Nat.le_of_ble_eq_true rfl) (fun d' => c_X12_puts L xs n d' (f_X12_here (z_s (g_X12_wrongs (Int32.ofInt 5) (S 99 3) S) 99 8 (((g_X12_wrongs (Int32.ofInt 5) (S 99 3) S) 99 8) + (Int32.ofInt 1)))) (z_s (g_X12_wrongs (Int32.ofInt 5) (S 99 3) S) 99 8 (((g_X12_wrongs (Int32.ofInt 5) (S 99 3) S) 99 8) + (Int32.ofInt 1))) R) ?_
    rintro _ _ _ ⟨rfl, rfl, rfl⟩
    show u_P L xs n d m_X12_opens 36 [(0, .ref 100)] [] (g_X12_puts (f_X12_here (z_s (g_X12_wrongs (Int32.ofInt 5) (S 99 3) S) 99 8 (((g_X12_wrongs (Int32.ofInt 5) (S 99 3) S) 99 8) + (Int32.ofInt 1)))) (z_s (g_X12_wrongs (Int32.ofInt 5) (S 99 3) S) 99 8 (((g_X12_wrongs (Int32.ofInt 5) (S 99 3) S) 99 8) + (Int32.ofInt 1)))) R _
    exact u_ret rfl rfl ⟨rfl, rfl, by rw [g_X12_opens, if_neg h1]⟩
noncomputable def f_X12_isTimes (a : Int32) : Int32 := (if a = (Int32.ofInt 42) then Int32.ofInt 1 else (if a = (Int32.ofInt 47) then Int32.ofInt 1 else (if ¬ a = (Int32.ofInt 37) then Int32.ofInt 0 else Int32.ofInt 1)))
set_option maxRecDepth 4000 in
theorem c_X12_isTimes (L : Nat) (xs : Nat → Int32) (n d : Nat) (a : Int32) (S : v_Sf) (R : v_Rf) : u_P L xs n d m_X12_isTimes 0 (lv_args 0 [.int a]) [] S R (z_Q R (fun v S1 => f_X12_isTimes a = v ∧ S = S1)) := by
  show u_P L xs n d m_X12_isTimes 0 [(0, .int a)] [] S R _
  refine u_st rfl (fun _ => rfl) ?_
  refine u_st rfl (fun _ => rfl) ?_
  show u_P L xs n d m_X12_isTimes 3 [(0, .int a)] [.int (Int32.ofInt 42), .int a] S R _
  refine u_ic_eq rfl (fun h1 => ?_) (fun h1 => ?_)
  · show u_P L xs n d m_X12_isTimes 18 [(0, .int a)] [] S R _
    refine u_st rfl (fun _ => rfl) ?_
    refine u_st rfl (fun _ => rfl) ?_
    show u_P L xs n d m_X12_isTimes 23 [(0, .int a)] [.int (Int32.ofInt 1)] S R _
    exact u_retb rfl rfl ⟨_, rfl, rfl, by rw [f_X12_isTimes, if_pos h1], rfl⟩
  · show u_P L xs n d m_X12_isTimes 6 [(0, .int a)] [] S R _
    refine u_st rfl (fun _ => rfl) ?_
    refine u_st rfl (fun _ => rfl) ?_
    show u_P L xs n d m_X12_isTimes 9 [(0, .int a)] [.int (Int32.ofInt 47), .int a] S R _
    refine u_ic_eq rfl (fun h2 => ?_) (fun h2 => ?_)
    · show u_P L xs n d m_X12_isTimes 18 [(0, .int a)] [] S R _
      refine u_st rfl (fun _ => rfl) ?_
      refine u_st rfl (fun _ => rfl) ?_
      show u_P L xs n d m_X12_isTimes 23 [(0, .int a)] [.int (Int32.ofInt 1)] S R _
      exact u_retb rfl rfl ⟨_, rfl, rfl, by rw [f_X12_isTimes, if_neg h1, if_pos h2], rfl⟩
    · show u_P L xs n d m_X12_isTimes 12 [(0, .int a)] [] S R _
      refine u_st rfl (fun _ => rfl) ?_
      refine u_st rfl (fun _ => rfl) ?_
      show u_P L xs n d m_X12_isTimes 15 [(0, .int a)] [.int (Int32.ofInt 37), .int a] S R _
      refine u_ic_ne rfl (fun h3 => ?_) (fun h3 => ?_)
      · show u_P L xs n d m_X12_isTimes 22 [(0, .int a)] [] S R _
        refine u_st rfl (fun _ => rfl) ?_
        show u_P L xs n d m_X12_isTimes 23 [(0, .int a)] [.int (Int32.ofInt 0)] S R _
        exact u_retb rfl rfl ⟨_, rfl, rfl, by rw [f_X12_isTimes, if_neg h1, if_neg h2, if_pos h3], rfl⟩
      · show u_P L xs n d m_X12_isTimes 18 [(0, .int a)] [] S R _
        refine u_st rfl (fun _ => rfl) ?_
        refine u_st rfl (fun _ => rfl) ?_
        show u_P L xs n d m_X12_isTimes 23 [(0, .int a)] [.int (Int32.ofInt 1)] S R _
        exact u_retb rfl rfl ⟨_, rfl, rfl, by rw [f_X12_isTimes, if_neg h1, if_neg h2, if_neg h3], rfl⟩
noncomputable def f_X12_isPlus (a : Int32) : Int32 := (if a = (Int32.ofInt 43) then Int32.ofInt 1 else (if ¬ a = (Int32.ofInt 45) then Int32.ofInt 0 else Int32.ofInt 1))
set_option maxRecDepth 4000 in
theorem c_X12_isPlus (L : Nat) (xs : Nat → Int32) (n d : Nat) (a : Int32) (S : v_Sf) (R : v_Rf) : u_P L xs n d m_X12_isPlus 0 (lv_args 0 [.int a]) [] S R (z_Q R (fun v S1 => f_X12_isPlus a = v ∧ S = S1)) := by
  show u_P L xs n d m_X12_isPlus 0 [(0, .int a)] [] S R _
  refine u_st rfl (fun _ => rfl) ?_
  refine u_st rfl (fun _ => rfl) ?_
  show u_P L xs n d m_X12_isPlus 3 [(0, .int a)] [.int (Int32.ofInt 43), .int a] S R _
  refine u_ic_eq rfl (fun h1 => ?_) (fun h1 => ?_)
  · show u_P L xs n d m_X12_isPlus 12 [(0, .int a)] [] S R _
    refine u_st rfl (fun _ => rfl) ?_
    refine u_st rfl (fun _ => rfl) ?_
    show u_P L xs n d m_X12_isPlus 17 [(0, .int a)] [.int (Int32.ofInt 1)] S R _
    exact u_retb rfl rfl ⟨_, rfl, rfl, by rw [f_X12_isPlus, if_pos h1], rfl⟩
  · show u_P L xs n d m_X12_isPlus 6 [(0, .int a)] [] S R _
    refine u_st rfl (fun _ => rfl) ?_
    refine u_st rfl (fun _ => rfl) ?_
    show u_P L xs n d m_X12_isPlus 9 [(0, .int a)] [.int (Int32.ofInt 45), .int a] S R _
    refine u_ic_ne rfl (fun h2 => ?_) (fun h2 => ?_)
    · show u_P L xs n d m_X12_isPlus 16 [(0, .int a)] [] S R _
      refine u_st rfl (fun _ => rfl) ?_
      show u_P L xs n d m_X12_isPlus 17 [(0, .int a)] [.int (Int32.ofInt 0)] S R _
      exact u_retb rfl rfl ⟨_, rfl, rfl, by rw [f_X12_isPlus, if_neg h1, if_pos h2], rfl⟩
    · show u_P L xs n d m_X12_isPlus 12 [(0, .int a)] [] S R _
      refine u_st rfl (fun _ => rfl) ?_
      refine u_st rfl (fun _ => rfl) ?_
      show u_P L xs n d m_X12_isPlus 17 [(0, .int a)] [.int (Int32.ofInt 1)] S R _
      exact u_retb rfl rfl ⟨_, rfl, rfl, by rw [f_X12_isPlus, if_neg h1, if_neg h2], rfl⟩
noncomputable def f_X12_isCompared (a : Int32) : Int32 := (if a = (Int32.ofInt 60) then Int32.ofInt 1 else (if a = (Int32.ofInt 62) then Int32.ofInt 1 else (if ¬ a = (Int32.ofInt 61) then Int32.ofInt 0 else Int32.ofInt 1)))
set_option maxRecDepth 4000 in
theorem c_X12_isCompared (L : Nat) (xs : Nat → Int32) (n d : Nat) (a : Int32) (S : v_Sf) (R : v_Rf) : u_P L xs n d m_X12_isCompared 0 (lv_args 0 [.int a]) [] S R (z_Q R (fun v S1 => f_X12_isCompared a = v ∧ S = S1)) := by
  show u_P L xs n d m_X12_isCompared 0 [(0, .int a)] [] S R _
  refine u_st rfl (fun _ => rfl) ?_
  refine u_st rfl (fun _ => rfl) ?_
  show u_P L xs n d m_X12_isCompared 3 [(0, .int a)] [.int (Int32.ofInt 60), .int a] S R _
  refine u_ic_eq rfl (fun h1 => ?_) (fun h1 => ?_)
  · show u_P L xs n d m_X12_isCompared 18 [(0, .int a)] [] S R _
    refine u_st rfl (fun _ => rfl) ?_
    refine u_st rfl (fun _ => rfl) ?_
    show u_P L xs n d m_X12_isCompared 23 [(0, .int a)] [.int (Int32.ofInt 1)] S R _
    exact u_retb rfl rfl ⟨_, rfl, rfl, by rw [f_X12_isCompared, if_pos h1], rfl⟩
  · show u_P L xs n d m_X12_isCompared 6 [(0, .int a)] [] S R _
    refine u_st rfl (fun _ => rfl) ?_
    refine u_st rfl (fun _ => rfl) ?_
    show u_P L xs n d m_X12_isCompared 9 [(0, .int a)] [.int (Int32.ofInt 62), .int a] S R _
    refine u_ic_eq rfl (fun h2 => ?_) (fun h2 => ?_)
    · show u_P L xs n d m_X12_isCompared 18 [(0, .int a)] [] S R _
      refine u_st rfl (fun _ => rfl) ?_
      refine u_st rfl (fun _ => rfl) ?_
      show u_P L xs n d m_X12_isCompared 23 [(0, .int a)] [.int (Int32.ofInt 1)] S R _
      exact u_retb rfl rfl ⟨_, rfl, rfl, by rw [f_X12_isCompared, if_neg h1, if_pos h2], rfl⟩
    · show u_P L xs n d m_X12_isCompared 12 [(0, .int a)] [] S R _
      refine u_st rfl (fun _ => rfl) ?_
      refine u_st rfl (fun _ => rfl) ?_
      show u_P L xs n d m_X12_isCompared 15 [(0, .int a)] [.int (Int32.ofInt 61), .int a] S R _
      refine u_ic_ne rfl (fun h3 => ?_) (fun h3 => ?_)
      · show u_P L xs n d m_X12_isCompared 22 [(0, .int a)] [] S R _
        refine u_st rfl (fun _ => rfl) ?_
        show u_P L xs n d m_X12_isCompared 23 [(0, .int a)] [.int (Int32.ofInt 0)] S R _
        exact u_retb rfl rfl ⟨_, rfl, rfl, by rw [f_X12_isCompared, if_neg h1, if_neg h2, if_pos h3], rfl⟩
      · show u_P L xs n d m_X12_isCompared 18 [(0, .int a)] [] S R _
        refine u_st rfl (fun _ => rfl) ?_
        refine u_st rfl (fun _ => rfl) ?_
        show u_P L xs n d m_X12_isCompared 23 [(0, .int a)] [.int (Int32.ofInt 1)] S R _
        exact u_retb rfl rfl ⟨_, rfl, rfl, by rw [f_X12_isCompared, if_neg h1, if_neg h2, if_neg h3], rfl⟩
noncomputable def f_X12_isValue (a : Int32) : Int32 := (if a = (Int32.ofInt 115) then Int32.ofInt 1 else (if a = (Int32.ofInt 113) then Int32.ofInt 1 else (if a = (Int32.ofInt 116) then Int32.ofInt 1 else (if a = (Int32.ofInt 104) then Int32.ofInt 1 else (if a = (Int32.ofInt 100) then Int32.ofInt 1 else (if a = (Int32.ofInt 119) then Int32.ofInt 1 else (if a = (Int32.ofInt 111) then Int32.ofInt 1 else (if a = (Int32.ofInt 112) then Int32.ofInt 1 else (if a = (Int32.ofInt 108) then Int32.ofInt 1 else (if a = (Int32.ofInt 97) then Int32.ofInt 1 else (if a = (Int32.ofInt 110) then Int32.ofInt 1 else (if a = (Int32.ofInt 118) then Int32.ofInt 1 else (if a = (Int32.ofInt 117) then Int32.ofInt 1 else (if a = (Int32.ofInt 122) then Int32.ofInt 1 else (if ¬ a = (Int32.ofInt 109) then Int32.ofInt 0 else Int32.ofInt 1)))))))))))))))
set_option maxRecDepth 4000 in
theorem c_X12_isValue (L : Nat) (xs : Nat → Int32) (n d : Nat) (a : Int32) (S : v_Sf) (R : v_Rf) : u_P L xs n d m_X12_isValue 0 (lv_args 0 [.int a]) [] S R (z_Q R (fun v S1 => f_X12_isValue a = v ∧ S = S1)) := by
  show u_P L xs n d m_X12_isValue 0 [(0, .int a)] [] S R _
  refine u_st rfl (fun _ => rfl) ?_
  refine u_st rfl (fun _ => rfl) ?_
  show u_P L xs n d m_X12_isValue 3 [(0, .int a)] [.int (Int32.ofInt 115), .int a] S R _
  refine u_ic_eq rfl (fun h1 => ?_) (fun h1 => ?_)
  · show u_P L xs n d m_X12_isValue 90 [(0, .int a)] [] S R _
    refine u_st rfl (fun _ => rfl) ?_
    refine u_st rfl (fun _ => rfl) ?_
    show u_P L xs n d m_X12_isValue 95 [(0, .int a)] [.int (Int32.ofInt 1)] S R _
    exact u_retb rfl rfl ⟨_, rfl, rfl, by rw [f_X12_isValue, if_pos h1], rfl⟩
  · show u_P L xs n d m_X12_isValue 6 [(0, .int a)] [] S R _
    refine u_st rfl (fun _ => rfl) ?_
    refine u_st rfl (fun _ => rfl) ?_
    show u_P L xs n d m_X12_isValue 9 [(0, .int a)] [.int (Int32.ofInt 113), .int a] S R _
    refine u_ic_eq rfl (fun h2 => ?_) (fun h2 => ?_)
    · show u_P L xs n d m_X12_isValue 90 [(0, .int a)] [] S R _
      refine u_st rfl (fun _ => rfl) ?_
      refine u_st rfl (fun _ => rfl) ?_
      show u_P L xs n d m_X12_isValue 95 [(0, .int a)] [.int (Int32.ofInt 1)] S R _
      exact u_retb rfl rfl ⟨_, rfl, rfl, by rw [f_X12_isValue, if_neg h1, if_pos h2], rfl⟩
    · show u_P L xs n d m_X12_isValue 12 [(0, .int a)] [] S R _
      refine u_st rfl (fun _ => rfl) ?_
      refine u_st rfl (fun _ => rfl) ?_
      show u_P L xs n d m_X12_isValue 15 [(0, .int a)] [.int (Int32.ofInt 116), .int a] S R _
      refine u_ic_eq rfl (fun h3 => ?_) (fun h3 => ?_)
      · show u_P L xs n d m_X12_isValue 90 [(0, .int a)] [] S R _
        refine u_st rfl (fun _ => rfl) ?_
        refine u_st rfl (fun _ => rfl) ?_
        show u_P L xs n d m_X12_isValue 95 [(0, .int a)] [.int (Int32.ofInt 1)] S R _
        exact u_retb rfl rfl ⟨_, rfl, rfl, by rw [f_X12_isValue, if_neg h1, if_neg h2, if_pos h3], rfl⟩
      · show u_P L xs n d m_X12_isValue 18 [(0, .int a)] [] S R _
        refine u_st rfl (fun _ => rfl) ?_
        refine u_st rfl (fun _ => rfl) ?_
        show u_P L xs n d m_X12_isValue 21 [(0, .int a)] [.int (Int32.ofInt 104), .int a] S R _
        refine u_ic_eq rfl (fun h4 => ?_) (fun h4 => ?_)
        · show u_P L xs n d m_X12_isValue 90 [(0, .int a)] [] S R _
          refine u_st rfl (fun _ => rfl) ?_
          refine u_st rfl (fun _ => rfl) ?_
          show u_P L xs n d m_X12_isValue 95 [(0, .int a)] [.int (Int32.ofInt 1)] S R _
          exact u_retb rfl rfl ⟨_, rfl, rfl, by rw [f_X12_isValue, if_neg h1, if_neg h2, if_neg h3, if_pos h4], rfl⟩
        · show u_P L xs n d m_X12_isValue 24 [(0, .int a)] [] S R _
          refine u_st rfl (fun _ => rfl) ?_
          refine u_st rfl (fun _ => rfl) ?_
          show u_P L xs n d m_X12_isValue 27 [(0, .int a)] [.int (Int32.ofInt 100), .int a] S R _
          refine u_ic_eq rfl (fun h5 => ?_) (fun h5 => ?_)
          · show u_P L xs n d m_X12_isValue 90 [(0, .int a)] [] S R _
            refine u_st rfl (fun _ => rfl) ?_
            refine u_st rfl (fun _ => rfl) ?_
            show u_P L xs n d m_X12_isValue 95 [(0, .int a)] [.int (Int32.ofInt 1)] S R _
            exact u_retb rfl rfl ⟨_, rfl, rfl, by rw [f_X12_isValue, if_neg h1, if_neg h2, if_neg h3, if_neg h4, if_pos h5], rfl⟩
          · show u_P L xs n d m_X12_isValue 30 [(0, .int a)] [] S R _
            refine u_st rfl (fun _ => rfl) ?_
            refine u_st rfl (fun _ => rfl) ?_
            show u_P L xs n d m_X12_isValue 33 [(0, .int a)] [.int (Int32.ofInt 119), .int a] S R _
            refine u_ic_eq rfl (fun h6 => ?_) (fun h6 => ?_)
            · show u_P L xs n d m_X12_isValue 90 [(0, .int a)] [] S R _
              refine u_st rfl (fun _ => rfl) ?_
              refine u_st rfl (fun _ => rfl) ?_
              show u_P L xs n d m_X12_isValue 95 [(0, .int a)] [.int (Int32.ofInt 1)] S R _
              exact u_retb rfl rfl ⟨_, rfl, rfl, by rw [f_X12_isValue, if_neg h1, if_neg h2, if_neg h3, if_neg h4, if_neg h5, if_pos h6], rfl⟩
            · show u_P L xs n d m_X12_isValue 36 [(0, .int a)] [] S R _
              refine u_st rfl (fun _ => rfl) ?_
              refine u_st rfl (fun _ => rfl) ?_
              show u_P L xs n d m_X12_isValue 39 [(0, .int a)] [.int (Int32.ofInt 111), .int a] S R _
              refine u_ic_eq rfl (fun h7 => ?_) (fun h7 => ?_)
              · show u_P L xs n d m_X12_isValue 90 [(0, .int a)] [] S R _
                refine u_st rfl (fun _ => rfl) ?_
                refine u_st rfl (fun _ => rfl) ?_
                show u_P L xs n d m_X12_isValue 95 [(0, .int a)] [.int (Int32.ofInt 1)] S R _
                exact u_retb rfl rfl ⟨_, rfl, rfl, by rw [f_X12_isValue, if_neg h1, if_neg h2, if_neg h3, if_neg h4, if_neg h5, if_neg h6, if_pos h7], rfl⟩
              · show u_P L xs n d m_X12_isValue 42 [(0, .int a)] [] S R _
                refine u_st rfl (fun _ => rfl) ?_
                refine u_st rfl (fun _ => rfl) ?_
                show u_P L xs n d m_X12_isValue 45 [(0, .int a)] [.int (Int32.ofInt 112), .int a] S R _
                refine u_ic_eq rfl (fun h8 => ?_) (fun h8 => ?_)
                · show u_P L xs n d m_X12_isValue 90 [(0, .int a)] [] S R _
                  refine u_st rfl (fun _ => rfl) ?_
                  refine u_st rfl (fun _ => rfl) ?_
                  show u_P L xs n d m_X12_isValue 95 [(0, .int a)] [.int (Int32.ofInt 1)] S R _
                  exact u_retb rfl rfl ⟨_, rfl, rfl, by rw [f_X12_isValue, if_neg h1, if_neg h2, if_neg h3, if_neg h4, if_neg h5, if_neg h6, if_neg h7, if_pos h8], rfl⟩
                · show u_P L xs n d m_X12_isValue 48 [(0, .int a)] [] S R _
                  refine u_st rfl (fun _ => rfl) ?_
                  refine u_st rfl (fun _ => rfl) ?_
                  show u_P L xs n d m_X12_isValue 51 [(0, .int a)] [.int (Int32.ofInt 108), .int a] S R _
                  refine u_ic_eq rfl (fun h9 => ?_) (fun h9 => ?_)
                  · show u_P L xs n d m_X12_isValue 90 [(0, .int a)] [] S R _
                    refine u_st rfl (fun _ => rfl) ?_
                    refine u_st rfl (fun _ => rfl) ?_
                    show u_P L xs n d m_X12_isValue 95 [(0, .int a)] [.int (Int32.ofInt 1)] S R _
                    exact u_retb rfl rfl ⟨_, rfl, rfl, by rw [f_X12_isValue, if_neg h1, if_neg h2, if_neg h3, if_neg h4, if_neg h5, if_neg h6, if_neg h7, if_neg h8, if_pos h9], rfl⟩
                  · show u_P L xs n d m_X12_isValue 54 [(0, .int a)] [] S R _
                    refine u_st rfl (fun _ => rfl) ?_
                    refine u_st rfl (fun _ => rfl) ?_
                    show u_P L xs n d m_X12_isValue 57 [(0, .int a)] [.int (Int32.ofInt 97), .int a] S R _
                    refine u_ic_eq rfl (fun h10 => ?_) (fun h10 => ?_)
                    · show u_P L xs n d m_X12_isValue 90 [(0, .int a)] [] S R _
                      refine u_st rfl (fun _ => rfl) ?_
                      refine u_st rfl (fun _ => rfl) ?_
                      show u_P L xs n d m_X12_isValue 95 [(0, .int a)] [.int (Int32.ofInt 1)] S R _
                      exact u_retb rfl rfl ⟨_, rfl, rfl, by rw [f_X12_isValue, if_neg h1, if_neg h2, if_neg h3, if_neg h4, if_neg h5, if_neg h6, if_neg h7, if_neg h8, if_neg h9, if_pos h10], rfl⟩
                    · show u_P L xs n d m_X12_isValue 60 [(0, .int a)] [] S R _
                      refine u_st rfl (fun _ => rfl) ?_
                      refine u_st rfl (fun _ => rfl) ?_
                      show u_P L xs n d m_X12_isValue 63 [(0, .int a)] [.int (Int32.ofInt 110), .int a] S R _
                      refine u_ic_eq rfl (fun h11 => ?_) (fun h11 => ?_)
                      · show u_P L xs n d m_X12_isValue 90 [(0, .int a)] [] S R _
                        refine u_st rfl (fun _ => rfl) ?_
                        refine u_st rfl (fun _ => rfl) ?_
                        show u_P L xs n d m_X12_isValue 95 [(0, .int a)] [.int (Int32.ofInt 1)] S R _
                        exact u_retb rfl rfl ⟨_, rfl, rfl, by rw [f_X12_isValue, if_neg h1, if_neg h2, if_neg h3, if_neg h4, if_neg h5, if_neg h6, if_neg h7, if_neg h8, if_neg h9, if_neg h10, if_pos h11], rfl⟩
                      · show u_P L xs n d m_X12_isValue 66 [(0, .int a)] [] S R _
                        refine u_st rfl (fun _ => rfl) ?_
                        refine u_st rfl (fun _ => rfl) ?_
                        show u_P L xs n d m_X12_isValue 69 [(0, .int a)] [.int (Int32.ofInt 118), .int a] S R _
                        refine u_ic_eq rfl (fun h12 => ?_) (fun h12 => ?_)
                        · show u_P L xs n d m_X12_isValue 90 [(0, .int a)] [] S R _
                          refine u_st rfl (fun _ => rfl) ?_
                          refine u_st rfl (fun _ => rfl) ?_
                          show u_P L xs n d m_X12_isValue 95 [(0, .int a)] [.int (Int32.ofInt 1)] S R _
                          exact u_retb rfl rfl ⟨_, rfl, rfl, by rw [f_X12_isValue, if_neg h1, if_neg h2, if_neg h3, if_neg h4, if_neg h5, if_neg h6, if_neg h7, if_neg h8, if_neg h9, if_neg h10, if_neg h11, if_pos h12], rfl⟩
                        · show u_P L xs n d m_X12_isValue 72 [(0, .int a)] [] S R _
                          refine u_st rfl (fun _ => rfl) ?_
                          refine u_st rfl (fun _ => rfl) ?_
                          show u_P L xs n d m_X12_isValue 75 [(0, .int a)] [.int (Int32.ofInt 117), .int a] S R _
                          refine u_ic_eq rfl (fun h13 => ?_) (fun h13 => ?_)
                          · show u_P L xs n d m_X12_isValue 90 [(0, .int a)] [] S R _
                            refine u_st rfl (fun _ => rfl) ?_
                            refine u_st rfl (fun _ => rfl) ?_
                            show u_P L xs n d m_X12_isValue 95 [(0, .int a)] [.int (Int32.ofInt 1)] S R _
                            exact u_retb rfl rfl ⟨_, rfl, rfl, by rw [f_X12_isValue, if_neg h1, if_neg h2, if_neg h3, if_neg h4, if_neg h5, if_neg h6, if_neg h7, if_neg h8, if_neg h9, if_neg h10, if_neg h11, if_neg h12, if_pos h13], rfl⟩
                          · show u_P L xs n d m_X12_isValue 78 [(0, .int a)] [] S R _
                            refine u_st rfl (fun _ => rfl) ?_
                            refine u_st rfl (fun _ => rfl) ?_
                            show u_P L xs n d m_X12_isValue 81 [(0, .int a)] [.int (Int32.ofInt 122), .int a] S R _
                            refine u_ic_eq rfl (fun h14 => ?_) (fun h14 => ?_)
                            · show u_P L xs n d m_X12_isValue 90 [(0, .int a)] [] S R _
                              refine u_st rfl (fun _ => rfl) ?_
                              refine u_st rfl (fun _ => rfl) ?_
                              show u_P L xs n d m_X12_isValue 95 [(0, .int a)] [.int (Int32.ofInt 1)] S R _
                              exact u_retb rfl rfl ⟨_, rfl, rfl, by rw [f_X12_isValue, if_neg h1, if_neg h2, if_neg h3, if_neg h4, if_neg h5, if_neg h6, if_neg h7, if_neg h8, if_neg h9, if_neg h10, if_neg h11, if_neg h12, if_neg h13, if_pos h14], rfl⟩
                            · show u_P L xs n d m_X12_isValue 84 [(0, .int a)] [] S R _
                              refine u_st rfl (fun _ => rfl) ?_
                              refine u_st rfl (fun _ => rfl) ?_
                              show u_P L xs n d m_X12_isValue 87 [(0, .int a)] [.int (Int32.ofInt 109), .int a] S R _
                              refine u_ic_ne rfl (fun h15 => ?_) (fun h15 => ?_)
                              · show u_P L xs n d m_X12_isValue 94 [(0, .int a)] [] S R _
                                refine u_st rfl (fun _ => rfl) ?_
                                show u_P L xs n d m_X12_isValue 95 [(0, .int a)] [.int (Int32.ofInt 0)] S R _
                                exact u_retb rfl rfl ⟨_, rfl, rfl, by rw [f_X12_isValue, if_neg h1, if_neg h2, if_neg h3, if_neg h4, if_neg h5, if_neg h6, if_neg h7, if_neg h8, if_neg h9, if_neg h10, if_neg h11, if_neg h12, if_neg h13, if_neg h14, if_pos h15], rfl⟩
                              · show u_P L xs n d m_X12_isValue 90 [(0, .int a)] [] S R _
                                refine u_st rfl (fun _ => rfl) ?_
                                refine u_st rfl (fun _ => rfl) ?_
                                show u_P L xs n d m_X12_isValue 95 [(0, .int a)] [.int (Int32.ofInt 1)] S R _
                                exact u_retb rfl rfl ⟨_, rfl, rfl, by rw [f_X12_isValue, if_neg h1, if_neg h2, if_neg h3, if_neg h4, if_neg h5, if_neg h6, if_neg h7, if_neg h8, if_neg h9, if_neg h10, if_neg h11, if_neg h12, if_neg h13, if_neg h14, if_neg h15], rfl⟩
noncomputable def f_X12_isClause (a : Int32) : Int32 := (if a = (Int32.ofInt 102) then Int32.ofInt 1 else (if a = (Int32.ofInt 103) then Int32.ofInt 1 else (if a = (Int32.ofInt 98) then Int32.ofInt 1 else (if a = (Int32.ofInt 105) then Int32.ofInt 1 else (if a = (Int32.ofInt 101) then Int32.ofInt 1 else (if ¬ a = (Int32.ofInt 120) then Int32.ofInt 0 else Int32.ofInt 1))))))
set_option maxRecDepth 4000 in
theorem c_X12_isClause (L : Nat) (xs : Nat → Int32) (n d : Nat) (a : Int32) (S : v_Sf) (R : v_Rf) : u_P L xs n d m_X12_isClause 0 (lv_args 0 [.int a]) [] S R (z_Q R (fun v S1 => f_X12_isClause a = v ∧ S = S1)) := by
  show u_P L xs n d m_X12_isClause 0 [(0, .int a)] [] S R _
  refine u_st rfl (fun _ => rfl) ?_
  refine u_st rfl (fun _ => rfl) ?_
  show u_P L xs n d m_X12_isClause 3 [(0, .int a)] [.int (Int32.ofInt 102), .int a] S R _
  refine u_ic_eq rfl (fun h1 => ?_) (fun h1 => ?_)
  · show u_P L xs n d m_X12_isClause 36 [(0, .int a)] [] S R _
    refine u_st rfl (fun _ => rfl) ?_
    refine u_st rfl (fun _ => rfl) ?_
    show u_P L xs n d m_X12_isClause 41 [(0, .int a)] [.int (Int32.ofInt 1)] S R _
    exact u_retb rfl rfl ⟨_, rfl, rfl, by rw [f_X12_isClause, if_pos h1], rfl⟩
  · show u_P L xs n d m_X12_isClause 6 [(0, .int a)] [] S R _
    refine u_st rfl (fun _ => rfl) ?_
    refine u_st rfl (fun _ => rfl) ?_
    show u_P L xs n d m_X12_isClause 9 [(0, .int a)] [.int (Int32.ofInt 103), .int a] S R _
    refine u_ic_eq rfl (fun h2 => ?_) (fun h2 => ?_)
    · show u_P L xs n d m_X12_isClause 36 [(0, .int a)] [] S R _
      refine u_st rfl (fun _ => rfl) ?_
      refine u_st rfl (fun _ => rfl) ?_
      show u_P L xs n d m_X12_isClause 41 [(0, .int a)] [.int (Int32.ofInt 1)] S R _
      exact u_retb rfl rfl ⟨_, rfl, rfl, by rw [f_X12_isClause, if_neg h1, if_pos h2], rfl⟩
    · show u_P L xs n d m_X12_isClause 12 [(0, .int a)] [] S R _
      refine u_st rfl (fun _ => rfl) ?_
      refine u_st rfl (fun _ => rfl) ?_
      show u_P L xs n d m_X12_isClause 15 [(0, .int a)] [.int (Int32.ofInt 98), .int a] S R _
      refine u_ic_eq rfl (fun h3 => ?_) (fun h3 => ?_)
      · show u_P L xs n d m_X12_isClause 36 [(0, .int a)] [] S R _
        refine u_st rfl (fun _ => rfl) ?_
        refine u_st rfl (fun _ => rfl) ?_
        show u_P L xs n d m_X12_isClause 41 [(0, .int a)] [.int (Int32.ofInt 1)] S R _
        exact u_retb rfl rfl ⟨_, rfl, rfl, by rw [f_X12_isClause, if_neg h1, if_neg h2, if_pos h3], rfl⟩
      · show u_P L xs n d m_X12_isClause 18 [(0, .int a)] [] S R _
        refine u_st rfl (fun _ => rfl) ?_
        refine u_st rfl (fun _ => rfl) ?_
        show u_P L xs n d m_X12_isClause 21 [(0, .int a)] [.int (Int32.ofInt 105), .int a] S R _
        refine u_ic_eq rfl (fun h4 => ?_) (fun h4 => ?_)
        · show u_P L xs n d m_X12_isClause 36 [(0, .int a)] [] S R _
          refine u_st rfl (fun _ => rfl) ?_
          refine u_st rfl (fun _ => rfl) ?_
          show u_P L xs n d m_X12_isClause 41 [(0, .int a)] [.int (Int32.ofInt 1)] S R _
          exact u_retb rfl rfl ⟨_, rfl, rfl, by rw [f_X12_isClause, if_neg h1, if_neg h2, if_neg h3, if_pos h4], rfl⟩
        · show u_P L xs n d m_X12_isClause 24 [(0, .int a)] [] S R _
          refine u_st rfl (fun _ => rfl) ?_
          refine u_st rfl (fun _ => rfl) ?_
          show u_P L xs n d m_X12_isClause 27 [(0, .int a)] [.int (Int32.ofInt 101), .int a] S R _
          refine u_ic_eq rfl (fun h5 => ?_) (fun h5 => ?_)
          · show u_P L xs n d m_X12_isClause 36 [(0, .int a)] [] S R _
            refine u_st rfl (fun _ => rfl) ?_
            refine u_st rfl (fun _ => rfl) ?_
            show u_P L xs n d m_X12_isClause 41 [(0, .int a)] [.int (Int32.ofInt 1)] S R _
            exact u_retb rfl rfl ⟨_, rfl, rfl, by rw [f_X12_isClause, if_neg h1, if_neg h2, if_neg h3, if_neg h4, if_pos h5], rfl⟩
          · show u_P L xs n d m_X12_isClause 30 [(0, .int a)] [] S R _
            refine u_st rfl (fun _ => rfl) ?_
            refine u_st rfl (fun _ => rfl) ?_
            show u_P L xs n d m_X12_isClause 33 [(0, .int a)] [.int (Int32.ofInt 120), .int a] S R _
            refine u_ic_ne rfl (fun h6 => ?_) (fun h6 => ?_)
            · show u_P L xs n d m_X12_isClause 40 [(0, .int a)] [] S R _
              refine u_st rfl (fun _ => rfl) ?_
              show u_P L xs n d m_X12_isClause 41 [(0, .int a)] [.int (Int32.ofInt 0)] S R _
              exact u_retb rfl rfl ⟨_, rfl, rfl, by rw [f_X12_isClause, if_neg h1, if_neg h2, if_neg h3, if_neg h4, if_neg h5, if_pos h6], rfl⟩
            · show u_P L xs n d m_X12_isClause 36 [(0, .int a)] [] S R _
              refine u_st rfl (fun _ => rfl) ?_
              refine u_st rfl (fun _ => rfl) ?_
              show u_P L xs n d m_X12_isClause 41 [(0, .int a)] [.int (Int32.ofInt 1)] S R _
              exact u_retb rfl rfl ⟨_, rfl, rfl, by rw [f_X12_isClause, if_neg h1, if_neg h2, if_neg h3, if_neg h4, if_neg h5, if_neg h6], rfl⟩
noncomputable def f_X12_valueOf (a : Int32) (S : v_Sf) : Int32 := (if a = Int32.ofInt 97 then S 99 36 else (if a = Int32.ofInt 98 then (S 99 60) - (S 99 60) / (Int32.ofInt 12) * (Int32.ofInt 12) else (if a = Int32.ofInt 99 then (S 99 60) - (S 99 60) / (Int32.ofInt 12) * (Int32.ofInt 12) else (if a = Int32.ofInt 100 then S 99 31 else (if a = Int32.ofInt 101 then (S 99 60) - (S 99 60) / (Int32.ofInt 12) * (Int32.ofInt 12) else (if a = Int32.ofInt 102 then (S 99 60) - (S 99 60) / (Int32.ofInt 12) * (Int32.ofInt 12) else (if a = Int32.ofInt 103 then (S 99 60) - (S 99 60) / (Int32.ofInt 12) * (Int32.ofInt 12) else (if a = Int32.ofInt 104 then S 99 30 else (if a = Int32.ofInt 105 then (S 99 60) - (S 99 60) / (Int32.ofInt 12) * (Int32.ofInt 12) else (if a = Int32.ofInt 106 then (S 99 60) - (S 99 60) / (Int32.ofInt 12) * (Int32.ofInt 12) else (if a = Int32.ofInt 107 then (S 99 60) - (S 99 60) / (Int32.ofInt 12) * (Int32.ofInt 12) else (if a = Int32.ofInt 108 then S 99 35 else (if a = Int32.ofInt 109 then (S 99 60) - (S 99 60) / (Int32.ofInt 12) * (Int32.ofInt 12) else (if a = Int32.ofInt 110 then S 99 37 else (if a = Int32.ofInt 111 then S 99 33 else (if a = Int32.ofInt 112 then S 99 34 else (if a = Int32.ofInt 113 then S 99 28 else (if a = Int32.ofInt 114 then (S 99 60) - (S 99 60) / (Int32.ofInt 12) * (Int32.ofInt 12) else (if a = Int32.ofInt 115 then S 99 27 else (if a = Int32.ofInt 116 then S 99 29 else (if a = Int32.ofInt 117 then S 99 39 else (if a = Int32.ofInt 118 then S 99 38 else (if a = Int32.ofInt 119 then S 99 32 else (if a = Int32.ofInt 120 then (S 99 60) - (S 99 60) / (Int32.ofInt 12) * (Int32.ofInt 12) else (if a = Int32.ofInt 121 then (S 99 60) - (S 99 60) / (Int32.ofInt 12) * (Int32.ofInt 12) else (if a = Int32.ofInt 122 then S 99 40 else (S 99 60) - (S 99 60) / (Int32.ofInt 12) * (Int32.ofInt 12)))))))))))))))))))))))))))
set_option maxRecDepth 4000 in
theorem c_X12_valueOf (L : Nat) (xs : Nat → Int32) (n d : Nat) (a : Int32) (S : v_Sf) (R : v_Rf) : u_P L xs n d m_X12_valueOf 0 (lv_args 0 [.ref 100, .int a]) [] S R (z_Q R (fun v S1 => f_X12_valueOf a S = v ∧ S = S1)) := by
  show u_P L xs n d m_X12_valueOf 0 [(0, .ref 100), (1, .int a)] [] S R _
  refine u_st rfl (fun _ => rfl) ?_
  show u_P L xs n d m_X12_valueOf 1 [(0, .ref 100), (1, .int a)] [.int a] S R _
  by_cases h1_0 : a = Int32.ofInt 97
  · refine u_jm (t := 165) (sc1 := []) rfl rfl rfl (by rw [h1_0]; rfl) ?_
    show u_P L xs n d m_X12_valueOf 165 [(0, .ref 100), (1, .int a)] [] S R _
    refine u_st rfl (fun _ => rfl) ?_
    show u_P L xs n d m_X12_valueOf 166 [(0, .ref 100), (1, .int a)] [.ref 100] S R _
    refine u_getE (v := S 99 36) rfl v_tyM rfl rfl ?_
    show u_P L xs n d m_X12_valueOf 169 [(0, .ref 100), (1, .int a)] [.int (S 99 36)] S R _
    exact u_ret rfl rfl ⟨_, rfl, rfl, by rw [f_X12_valueOf, if_pos h1_0], rfl⟩
  · by_cases h1_1 : a = Int32.ofInt 98
    · refine u_jm (t := 190) (sc1 := []) rfl rfl rfl (by rw [h1_1]; rfl) ?_
      show u_P L xs n d m_X12_valueOf 190 [(0, .ref 100), (1, .int a)] [] S R _
      refine u_st rfl (fun _ => rfl) ?_
      show u_P L xs n d m_X12_valueOf 191 [(0, .ref 100), (1, .int a)] [.ref 100] S R _
      refine u_getE (v := S 99 60) rfl v_tyM rfl rfl ?_
      refine u_st rfl (fun _ => rfl) ?_
      show u_P L xs n d m_X12_valueOf 196 [(0, .ref 100), (1, .int a)] [.int (Int32.ofInt 12), .int (S 99 60)] S R _
      refine u_irem rfl (fun b2 => ?_)
      show u_P L xs n d m_X12_valueOf 197 [(0, .ref 100), (1, .int a)] [.int ((S 99 60) - (S 99 60) / (Int32.ofInt 12) * (Int32.ofInt 12))] S R _
      exact u_ret rfl rfl ⟨_, rfl, rfl, by rw [f_X12_valueOf, if_neg h1_0, if_pos h1_1], rfl⟩
    · by_cases h1_2 : a = Int32.ofInt 99
      · refine u_jm (t := 190) (sc1 := []) rfl rfl rfl (by rw [h1_2]; rfl) ?_
        show u_P L xs n d m_X12_valueOf 190 [(0, .ref 100), (1, .int a)] [] S R _
        refine u_st rfl (fun _ => rfl) ?_
        show u_P L xs n d m_X12_valueOf 191 [(0, .ref 100), (1, .int a)] [.ref 100] S R _
        refine u_getE (v := S 99 60) rfl v_tyM rfl rfl ?_
        refine u_st rfl (fun _ => rfl) ?_
        show u_P L xs n d m_X12_valueOf 196 [(0, .ref 100), (1, .int a)] [.int (Int32.ofInt 12), .int (S 99 60)] S R _
        refine u_irem rfl (fun b3 => ?_)
        show u_P L xs n d m_X12_valueOf 197 [(0, .ref 100), (1, .int a)] [.int ((S 99 60) - (S 99 60) / (Int32.ofInt 12) * (Int32.ofInt 12))] S R _
        exact u_ret rfl rfl ⟨_, rfl, rfl, by rw [f_X12_valueOf, if_neg h1_0, if_neg h1_1, if_pos h1_2], rfl⟩
      · by_cases h1_3 : a = Int32.ofInt 100
        · refine u_jm (t := 140) (sc1 := []) rfl rfl rfl (by rw [h1_3]; rfl) ?_
          show u_P L xs n d m_X12_valueOf 140 [(0, .ref 100), (1, .int a)] [] S R _
          refine u_st rfl (fun _ => rfl) ?_
          show u_P L xs n d m_X12_valueOf 141 [(0, .ref 100), (1, .int a)] [.ref 100] S R _
          refine u_getE (v := S 99 31) rfl v_tyM rfl rfl ?_
          show u_P L xs n d m_X12_valueOf 144 [(0, .ref 100), (1, .int a)] [.int (S 99 31)] S R _
          exact u_ret rfl rfl ⟨_, rfl, rfl, by rw [f_X12_valueOf, if_neg h1_0, if_neg h1_1, if_neg h1_2, if_pos h1_3], rfl⟩
        · by_cases h1_4 : a = Int32.ofInt 101
          · refine u_jm (t := 190) (sc1 := []) rfl rfl rfl (by rw [h1_4]; rfl) ?_
            show u_P L xs n d m_X12_valueOf 190 [(0, .ref 100), (1, .int a)] [] S R _
            refine u_st rfl (fun _ => rfl) ?_
            show u_P L xs n d m_X12_valueOf 191 [(0, .ref 100), (1, .int a)] [.ref 100] S R _
            refine u_getE (v := S 99 60) rfl v_tyM rfl rfl ?_
            refine u_st rfl (fun _ => rfl) ?_
            show u_P L xs n d m_X12_valueOf 196 [(0, .ref 100), (1, .int a)] [.int (Int32.ofInt 12), .int (S 99 60)] S R _
            refine u_irem rfl (fun b4 => ?_)
            show u_P L xs n d m_X12_valueOf 197 [(0, .ref 100), (1, .int a)] [.int ((S 99 60) - (S 99 60) / (Int32.ofInt 12) * (Int32.ofInt 12))] S R _
            exact u_ret rfl rfl ⟨_, rfl, rfl, by rw [f_X12_valueOf, if_neg h1_0, if_neg h1_1, if_neg h1_2, if_neg h1_3, if_pos h1_4], rfl⟩
          · by_cases h1_5 : a = Int32.ofInt 102
            · refine u_jm (t := 190) (sc1 := []) rfl rfl rfl (by rw [h1_5]; rfl) ?_
              show u_P L xs n d m_X12_valueOf 190 [(0, .ref 100), (1, .int a)] [] S R _
              refine u_st rfl (fun _ => rfl) ?_
              show u_P L xs n d m_X12_valueOf 191 [(0, .ref 100), (1, .int a)] [.ref 100] S R _
              refine u_getE (v := S 99 60) rfl v_tyM rfl rfl ?_
              refine u_st rfl (fun _ => rfl) ?_
              show u_P L xs n d m_X12_valueOf 196 [(0, .ref 100), (1, .int a)] [.int (Int32.ofInt 12), .int (S 99 60)] S R _
              refine u_irem rfl (fun b5 => ?_)
              show u_P L xs n d m_X12_valueOf 197 [(0, .ref 100), (1, .int a)] [.int ((S 99 60) - (S 99 60) / (Int32.ofInt 12) * (Int32.ofInt 12))] S R _
              exact u_ret rfl rfl ⟨_, rfl, rfl, by rw [f_X12_valueOf, if_neg h1_0, if_neg h1_1, if_neg h1_2, if_neg h1_3, if_neg h1_4, if_pos h1_5], rfl⟩
            · by_cases h1_6 : a = Int32.ofInt 103
              · refine u_jm (t := 190) (sc1 := []) rfl rfl rfl (by rw [h1_6]; rfl) ?_
                show u_P L xs n d m_X12_valueOf 190 [(0, .ref 100), (1, .int a)] [] S R _
                refine u_st rfl (fun _ => rfl) ?_
                show u_P L xs n d m_X12_valueOf 191 [(0, .ref 100), (1, .int a)] [.ref 100] S R _
                refine u_getE (v := S 99 60) rfl v_tyM rfl rfl ?_
                refine u_st rfl (fun _ => rfl) ?_
                show u_P L xs n d m_X12_valueOf 196 [(0, .ref 100), (1, .int a)] [.int (Int32.ofInt 12), .int (S 99 60)] S R _
                refine u_irem rfl (fun b6 => ?_)
                show u_P L xs n d m_X12_valueOf 197 [(0, .ref 100), (1, .int a)] [.int ((S 99 60) - (S 99 60) / (Int32.ofInt 12) * (Int32.ofInt 12))] S R _
                exact u_ret rfl rfl ⟨_, rfl, rfl, by rw [f_X12_valueOf, if_neg h1_0, if_neg h1_1, if_neg h1_2, if_neg h1_3, if_neg h1_4, if_neg h1_5, if_pos h1_6], rfl⟩
              · by_cases h1_7 : a = Int32.ofInt 104
                · refine u_jm (t := 135) (sc1 := []) rfl rfl rfl (by rw [h1_7]; rfl) ?_
                  show u_P L xs n d m_X12_valueOf 135 [(0, .ref 100), (1, .int a)] [] S R _
                  refine u_st rfl (fun _ => rfl) ?_
                  show u_P L xs n d m_X12_valueOf 136 [(0, .ref 100), (1, .int a)] [.ref 100] S R _
                  refine u_getE (v := S 99 30) rfl v_tyM rfl rfl ?_
                  show u_P L xs n d m_X12_valueOf 139 [(0, .ref 100), (1, .int a)] [.int (S 99 30)] S R _
                  exact u_ret rfl rfl ⟨_, rfl, rfl, by rw [f_X12_valueOf, if_neg h1_0, if_neg h1_1, if_neg h1_2, if_neg h1_3, if_neg h1_4, if_neg h1_5, if_neg h1_6, if_pos h1_7], rfl⟩
                · by_cases h1_8 : a = Int32.ofInt 105
                  · refine u_jm (t := 190) (sc1 := []) rfl rfl rfl (by rw [h1_8]; rfl) ?_
                    show u_P L xs n d m_X12_valueOf 190 [(0, .ref 100), (1, .int a)] [] S R _
                    refine u_st rfl (fun _ => rfl) ?_
                    show u_P L xs n d m_X12_valueOf 191 [(0, .ref 100), (1, .int a)] [.ref 100] S R _
                    refine u_getE (v := S 99 60) rfl v_tyM rfl rfl ?_
                    refine u_st rfl (fun _ => rfl) ?_
                    show u_P L xs n d m_X12_valueOf 196 [(0, .ref 100), (1, .int a)] [.int (Int32.ofInt 12), .int (S 99 60)] S R _
                    refine u_irem rfl (fun b7 => ?_)
                    show u_P L xs n d m_X12_valueOf 197 [(0, .ref 100), (1, .int a)] [.int ((S 99 60) - (S 99 60) / (Int32.ofInt 12) * (Int32.ofInt 12))] S R _
                    exact u_ret rfl rfl ⟨_, rfl, rfl, by rw [f_X12_valueOf, if_neg h1_0, if_neg h1_1, if_neg h1_2, if_neg h1_3, if_neg h1_4, if_neg h1_5, if_neg h1_6, if_neg h1_7, if_pos h1_8], rfl⟩
                  · by_cases h1_9 : a = Int32.ofInt 106
                    · refine u_jm (t := 190) (sc1 := []) rfl rfl rfl (by rw [h1_9]; rfl) ?_
                      show u_P L xs n d m_X12_valueOf 190 [(0, .ref 100), (1, .int a)] [] S R _
                      refine u_st rfl (fun _ => rfl) ?_
                      show u_P L xs n d m_X12_valueOf 191 [(0, .ref 100), (1, .int a)] [.ref 100] S R _
                      refine u_getE (v := S 99 60) rfl v_tyM rfl rfl ?_
                      refine u_st rfl (fun _ => rfl) ?_
                      show u_P L xs n d m_X12_valueOf 196 [(0, .ref 100), (1, .int a)] [.int (Int32.ofInt 12), .int (S 99 60)] S R _
                      refine u_irem rfl (fun b8 => ?_)
                      show u_P L xs n d m_X12_valueOf 197 [(0, .ref 100), (1, .int a)] [.int ((S 99 60) - (S 99 60) / (Int32.ofInt 12) * (Int32.ofInt 12))] S R _
                      exact u_ret rfl rfl ⟨_, rfl, rfl, by rw [f_X12_valueOf, if_neg h1_0, if_neg h1_1, if_neg h1_2, if_neg h1_3, if_neg h1_4, if_neg h1_5, if_neg h1_6, if_neg h1_7, if_neg h1_8, if_pos h1_9], rfl⟩
                    · by_cases h1_10 : a = Int32.ofInt 107
                      · refine u_jm (t := 190) (sc1 := []) rfl rfl rfl (by rw [h1_10]; rfl) ?_
                        show u_P L xs n d m_X12_valueOf 190 [(0, .ref 100), (1, .int a)] [] S R _
                        refine u_st rfl (fun _ => rfl) ?_
                        show u_P L xs n d m_X12_valueOf 191 [(0, .ref 100), (1, .int a)] [.ref 100] S R _
                        refine u_getE (v := S 99 60) rfl v_tyM rfl rfl ?_
                        refine u_st rfl (fun _ => rfl) ?_
                        show u_P L xs n d m_X12_valueOf 196 [(0, .ref 100), (1, .int a)] [.int (Int32.ofInt 12), .int (S 99 60)] S R _
                        refine u_irem rfl (fun b9 => ?_)
                        show u_P L xs n d m_X12_valueOf 197 [(0, .ref 100), (1, .int a)] [.int ((S 99 60) - (S 99 60) / (Int32.ofInt 12) * (Int32.ofInt 12))] S R _
                        exact u_ret rfl rfl ⟨_, rfl, rfl, by rw [f_X12_valueOf, if_neg h1_0, if_neg h1_1, if_neg h1_2, if_neg h1_3, if_neg h1_4, if_neg h1_5, if_neg h1_6, if_neg h1_7, if_neg h1_8, if_neg h1_9, if_pos h1_10], rfl⟩
                      · by_cases h1_11 : a = Int32.ofInt 108
                        · refine u_jm (t := 160) (sc1 := []) rfl rfl rfl (by rw [h1_11]; rfl) ?_
                          show u_P L xs n d m_X12_valueOf 160 [(0, .ref 100), (1, .int a)] [] S R _
                          refine u_st rfl (fun _ => rfl) ?_
                          show u_P L xs n d m_X12_valueOf 161 [(0, .ref 100), (1, .int a)] [.ref 100] S R _
                          refine u_getE (v := S 99 35) rfl v_tyM rfl rfl ?_
                          show u_P L xs n d m_X12_valueOf 164 [(0, .ref 100), (1, .int a)] [.int (S 99 35)] S R _
                          exact u_ret rfl rfl ⟨_, rfl, rfl, by rw [f_X12_valueOf, if_neg h1_0, if_neg h1_1, if_neg h1_2, if_neg h1_3, if_neg h1_4, if_neg h1_5, if_neg h1_6, if_neg h1_7, if_neg h1_8, if_neg h1_9, if_neg h1_10, if_pos h1_11], rfl⟩
                        · by_cases h1_12 : a = Int32.ofInt 109
                          · refine u_jm (t := 190) (sc1 := []) rfl rfl rfl (by rw [h1_12]; rfl) ?_
                            show u_P L xs n d m_X12_valueOf 190 [(0, .ref 100), (1, .int a)] [] S R _
                            refine u_st rfl (fun _ => rfl) ?_
                            show u_P L xs n d m_X12_valueOf 191 [(0, .ref 100), (1, .int a)] [.ref 100] S R _
                            refine u_getE (v := S 99 60) rfl v_tyM rfl rfl ?_
                            refine u_st rfl (fun _ => rfl) ?_
                            show u_P L xs n d m_X12_valueOf 196 [(0, .ref 100), (1, .int a)] [.int (Int32.ofInt 12), .int (S 99 60)] S R _
                            refine u_irem rfl (fun b10 => ?_)
                            show u_P L xs n d m_X12_valueOf 197 [(0, .ref 100), (1, .int a)] [.int ((S 99 60) - (S 99 60) / (Int32.ofInt 12) * (Int32.ofInt 12))] S R _
                            exact u_ret rfl rfl ⟨_, rfl, rfl, by rw [f_X12_valueOf, if_neg h1_0, if_neg h1_1, if_neg h1_2, if_neg h1_3, if_neg h1_4, if_neg h1_5, if_neg h1_6, if_neg h1_7, if_neg h1_8, if_neg h1_9, if_neg h1_10, if_neg h1_11, if_pos h1_12], rfl⟩
                          · by_cases h1_13 : a = Int32.ofInt 110
                            · refine u_jm (t := 170) (sc1 := []) rfl rfl rfl (by rw [h1_13]; rfl) ?_
                              show u_P L xs n d m_X12_valueOf 170 [(0, .ref 100), (1, .int a)] [] S R _
                              refine u_st rfl (fun _ => rfl) ?_
                              show u_P L xs n d m_X12_valueOf 171 [(0, .ref 100), (1, .int a)] [.ref 100] S R _
                              refine u_getE (v := S 99 37) rfl v_tyM rfl rfl ?_
                              show u_P L xs n d m_X12_valueOf 174 [(0, .ref 100), (1, .int a)] [.int (S 99 37)] S R _
                              exact u_ret rfl rfl ⟨_, rfl, rfl, by rw [f_X12_valueOf, if_neg h1_0, if_neg h1_1, if_neg h1_2, if_neg h1_3, if_neg h1_4, if_neg h1_5, if_neg h1_6, if_neg h1_7, if_neg h1_8, if_neg h1_9, if_neg h1_10, if_neg h1_11, if_neg h1_12, if_pos h1_13], rfl⟩
                            · by_cases h1_14 : a = Int32.ofInt 111
                              · refine u_jm (t := 150) (sc1 := []) rfl rfl rfl (by rw [h1_14]; rfl) ?_
                                show u_P L xs n d m_X12_valueOf 150 [(0, .ref 100), (1, .int a)] [] S R _
                                refine u_st rfl (fun _ => rfl) ?_
                                show u_P L xs n d m_X12_valueOf 151 [(0, .ref 100), (1, .int a)] [.ref 100] S R _
                                refine u_getE (v := S 99 33) rfl v_tyM rfl rfl ?_
                                show u_P L xs n d m_X12_valueOf 154 [(0, .ref 100), (1, .int a)] [.int (S 99 33)] S R _
                                exact u_ret rfl rfl ⟨_, rfl, rfl, by rw [f_X12_valueOf, if_neg h1_0, if_neg h1_1, if_neg h1_2, if_neg h1_3, if_neg h1_4, if_neg h1_5, if_neg h1_6, if_neg h1_7, if_neg h1_8, if_neg h1_9, if_neg h1_10, if_neg h1_11, if_neg h1_12, if_neg h1_13, if_pos h1_14], rfl⟩
                              · by_cases h1_15 : a = Int32.ofInt 112
                                · refine u_jm (t := 155) (sc1 := []) rfl rfl rfl (by rw [h1_15]; rfl) ?_
                                  show u_P L xs n d m_X12_valueOf 155 [(0, .ref 100), (1, .int a)] [] S R _
                                  refine u_st rfl (fun _ => rfl) ?_
                                  show u_P L xs n d m_X12_valueOf 156 [(0, .ref 100), (1, .int a)] [.ref 100] S R _
                                  refine u_getE (v := S 99 34) rfl v_tyM rfl rfl ?_
                                  show u_P L xs n d m_X12_valueOf 159 [(0, .ref 100), (1, .int a)] [.int (S 99 34)] S R _
                                  exact u_ret rfl rfl ⟨_, rfl, rfl, by rw [f_X12_valueOf, if_neg h1_0, if_neg h1_1, if_neg h1_2, if_neg h1_3, if_neg h1_4, if_neg h1_5, if_neg h1_6, if_neg h1_7, if_neg h1_8, if_neg h1_9, if_neg h1_10, if_neg h1_11, if_neg h1_12, if_neg h1_13, if_neg h1_14, if_pos h1_15], rfl⟩
                                · by_cases h1_16 : a = Int32.ofInt 113
                                  · refine u_jm (t := 125) (sc1 := []) rfl rfl rfl (by rw [h1_16]; rfl) ?_
                                    show u_P L xs n d m_X12_valueOf 125 [(0, .ref 100), (1, .int a)] [] S R _
                                    refine u_st rfl (fun _ => rfl) ?_
                                    show u_P L xs n d m_X12_valueOf 126 [(0, .ref 100), (1, .int a)] [.ref 100] S R _
                                    refine u_getE (v := S 99 28) rfl v_tyM rfl rfl ?_
                                    show u_P L xs n d m_X12_valueOf 129 [(0, .ref 100), (1, .int a)] [.int (S 99 28)] S R _
                                    exact u_ret rfl rfl ⟨_, rfl, rfl, by rw [f_X12_valueOf, if_neg h1_0, if_neg h1_1, if_neg h1_2, if_neg h1_3, if_neg h1_4, if_neg h1_5, if_neg h1_6, if_neg h1_7, if_neg h1_8, if_neg h1_9, if_neg h1_10, if_neg h1_11, if_neg h1_12, if_neg h1_13, if_neg h1_14, if_neg h1_15, if_pos h1_16], rfl⟩
                                  · by_cases h1_17 : a = Int32.ofInt 114
                                    · refine u_jm (t := 190) (sc1 := []) rfl rfl rfl (by rw [h1_17]; rfl) ?_
                                      show u_P L xs n d m_X12_valueOf 190 [(0, .ref 100), (1, .int a)] [] S R _
                                      refine u_st rfl (fun _ => rfl) ?_
                                      show u_P L xs n d m_X12_valueOf 191 [(0, .ref 100), (1, .int a)] [.ref 100] S R _
                                      refine u_getE (v := S 99 60) rfl v_tyM rfl rfl ?_
                                      refine u_st rfl (fun _ => rfl) ?_
                                      show u_P L xs n d m_X12_valueOf 196 [(0, .ref 100), (1, .int a)] [.int (Int32.ofInt 12), .int (S 99 60)] S R _
                                      refine u_irem rfl (fun b11 => ?_)
                                      show u_P L xs n d m_X12_valueOf 197 [(0, .ref 100), (1, .int a)] [.int ((S 99 60) - (S 99 60) / (Int32.ofInt 12) * (Int32.ofInt 12))] S R _
                                      exact u_ret rfl rfl ⟨_, rfl, rfl, by rw [f_X12_valueOf, if_neg h1_0, if_neg h1_1, if_neg h1_2, if_neg h1_3, if_neg h1_4, if_neg h1_5, if_neg h1_6, if_neg h1_7, if_neg h1_8, if_neg h1_9, if_neg h1_10, if_neg h1_11, if_neg h1_12, if_neg h1_13, if_neg h1_14, if_neg h1_15, if_neg h1_16, if_pos h1_17], rfl⟩
                                    · by_cases h1_18 : a = Int32.ofInt 115
                                      · refine u_jm (t := 120) (sc1 := []) rfl rfl rfl (by rw [h1_18]; rfl) ?_
                                        show u_P L xs n d m_X12_valueOf 120 [(0, .ref 100), (1, .int a)] [] S R _
                                        refine u_st rfl (fun _ => rfl) ?_
                                        show u_P L xs n d m_X12_valueOf 121 [(0, .ref 100), (1, .int a)] [.ref 100] S R _
                                        refine u_getE (v := S 99 27) rfl v_tyM rfl rfl ?_
                                        show u_P L xs n d m_X12_valueOf 124 [(0, .ref 100), (1, .int a)] [.int (S 99 27)] S R _
                                        exact u_ret rfl rfl ⟨_, rfl, rfl, by rw [f_X12_valueOf, if_neg h1_0, if_neg h1_1, if_neg h1_2, if_neg h1_3, if_neg h1_4, if_neg h1_5, if_neg h1_6, if_neg h1_7, if_neg h1_8, if_neg h1_9, if_neg h1_10, if_neg h1_11, if_neg h1_12, if_neg h1_13, if_neg h1_14, if_neg h1_15, if_neg h1_16, if_neg h1_17, if_pos h1_18], rfl⟩
                                      · by_cases h1_19 : a = Int32.ofInt 116
                                        · refine u_jm (t := 130) (sc1 := []) rfl rfl rfl (by rw [h1_19]; rfl) ?_
                                          show u_P L xs n d m_X12_valueOf 130 [(0, .ref 100), (1, .int a)] [] S R _
                                          refine u_st rfl (fun _ => rfl) ?_
                                          show u_P L xs n d m_X12_valueOf 131 [(0, .ref 100), (1, .int a)] [.ref 100] S R _
                                          refine u_getE (v := S 99 29) rfl v_tyM rfl rfl ?_
                                          show u_P L xs n d m_X12_valueOf 134 [(0, .ref 100), (1, .int a)] [.int (S 99 29)] S R _
                                          exact u_ret rfl rfl ⟨_, rfl, rfl, by rw [f_X12_valueOf, if_neg h1_0, if_neg h1_1, if_neg h1_2, if_neg h1_3, if_neg h1_4, if_neg h1_5, if_neg h1_6, if_neg h1_7, if_neg h1_8, if_neg h1_9, if_neg h1_10, if_neg h1_11, if_neg h1_12, if_neg h1_13, if_neg h1_14, if_neg h1_15, if_neg h1_16, if_neg h1_17, if_neg h1_18, if_pos h1_19], rfl⟩
                                        · by_cases h1_20 : a = Int32.ofInt 117
                                          · refine u_jm (t := 180) (sc1 := []) rfl rfl rfl (by rw [h1_20]; rfl) ?_
                                            show u_P L xs n d m_X12_valueOf 180 [(0, .ref 100), (1, .int a)] [] S R _
                                            refine u_st rfl (fun _ => rfl) ?_
                                            show u_P L xs n d m_X12_valueOf 181 [(0, .ref 100), (1, .int a)] [.ref 100] S R _
                                            refine u_getE (v := S 99 39) rfl v_tyM rfl rfl ?_
                                            show u_P L xs n d m_X12_valueOf 184 [(0, .ref 100), (1, .int a)] [.int (S 99 39)] S R _
                                            exact u_ret rfl rfl ⟨_, rfl, rfl, by rw [f_X12_valueOf, if_neg h1_0, if_neg h1_1, if_neg h1_2, if_neg h1_3, if_neg h1_4, if_neg h1_5, if_neg h1_6, if_neg h1_7, if_neg h1_8, if_neg h1_9, if_neg h1_10, if_neg h1_11, if_neg h1_12, if_neg h1_13, if_neg h1_14, if_neg h1_15, if_neg h1_16, if_neg h1_17, if_neg h1_18, if_neg h1_19, if_pos h1_20], rfl⟩
                                          · by_cases h1_21 : a = Int32.ofInt 118
                                            · refine u_jm (t := 175) (sc1 := []) rfl rfl rfl (by rw [h1_21]; rfl) ?_
                                              show u_P L xs n d m_X12_valueOf 175 [(0, .ref 100), (1, .int a)] [] S R _
                                              refine u_st rfl (fun _ => rfl) ?_
                                              show u_P L xs n d m_X12_valueOf 176 [(0, .ref 100), (1, .int a)] [.ref 100] S R _
                                              refine u_getE (v := S 99 38) rfl v_tyM rfl rfl ?_
                                              show u_P L xs n d m_X12_valueOf 179 [(0, .ref 100), (1, .int a)] [.int (S 99 38)] S R _
                                              exact u_ret rfl rfl ⟨_, rfl, rfl, by rw [f_X12_valueOf, if_neg h1_0, if_neg h1_1, if_neg h1_2, if_neg h1_3, if_neg h1_4, if_neg h1_5, if_neg h1_6, if_neg h1_7, if_neg h1_8, if_neg h1_9, if_neg h1_10, if_neg h1_11, if_neg h1_12, if_neg h1_13, if_neg h1_14, if_neg h1_15, if_neg h1_16, if_neg h1_17, if_neg h1_18, if_neg h1_19, if_neg h1_20, if_pos h1_21], rfl⟩
                                            · by_cases h1_22 : a = Int32.ofInt 119
                                              · refine u_jm (t := 145) (sc1 := []) rfl rfl rfl (by rw [h1_22]; rfl) ?_
                                                show u_P L xs n d m_X12_valueOf 145 [(0, .ref 100), (1, .int a)] [] S R _
                                                refine u_st rfl (fun _ => rfl) ?_
                                                show u_P L xs n d m_X12_valueOf 146 [(0, .ref 100), (1, .int a)] [.ref 100] S R _
                                                refine u_getE (v := S 99 32) rfl v_tyM rfl rfl ?_
                                                show u_P L xs n d m_X12_valueOf 149 [(0, .ref 100), (1, .int a)] [.int (S 99 32)] S R _
                                                exact u_ret rfl rfl ⟨_, rfl, rfl, by rw [f_X12_valueOf, if_neg h1_0, if_neg h1_1, if_neg h1_2, if_neg h1_3, if_neg h1_4, if_neg h1_5, if_neg h1_6, if_neg h1_7, if_neg h1_8, if_neg h1_9, if_neg h1_10, if_neg h1_11, if_neg h1_12, if_neg h1_13, if_neg h1_14, if_neg h1_15, if_neg h1_16, if_neg h1_17, if_neg h1_18, if_neg h1_19, if_neg h1_20, if_neg h1_21, if_pos h1_22], rfl⟩
                                              · by_cases h1_23 : a = Int32.ofInt 120
                                                · refine u_jm (t := 190) (sc1 := []) rfl rfl rfl (by rw [h1_23]; rfl) ?_
                                                  show u_P L xs n d m_X12_valueOf 190 [(0, .ref 100), (1, .int a)] [] S R _
                                                  refine u_st rfl (fun _ => rfl) ?_
                                                  show u_P L xs n d m_X12_valueOf 191 [(0, .ref 100), (1, .int a)] [.ref 100] S R _
                                                  refine u_getE (v := S 99 60) rfl v_tyM rfl rfl ?_
                                                  refine u_st rfl (fun _ => rfl) ?_
                                                  show u_P L xs n d m_X12_valueOf 196 [(0, .ref 100), (1, .int a)] [.int (Int32.ofInt 12), .int (S 99 60)] S R _
                                                  refine u_irem rfl (fun b12 => ?_)
                                                  show u_P L xs n d m_X12_valueOf 197 [(0, .ref 100), (1, .int a)] [.int ((S 99 60) - (S 99 60) / (Int32.ofInt 12) * (Int32.ofInt 12))] S R _
                                                  exact u_ret rfl rfl ⟨_, rfl, rfl, by rw [f_X12_valueOf, if_neg h1_0, if_neg h1_1, if_neg h1_2, if_neg h1_3, if_neg h1_4, if_neg h1_5, if_neg h1_6, if_neg h1_7, if_neg h1_8, if_neg h1_9, if_neg h1_10, if_neg h1_11, if_neg h1_12, if_neg h1_13, if_neg h1_14, if_neg h1_15, if_neg h1_16, if_neg h1_17, if_neg h1_18, if_neg h1_19, if_neg h1_20, if_neg h1_21, if_neg h1_22, if_pos h1_23], rfl⟩
                                                · by_cases h1_24 : a = Int32.ofInt 121
                                                  · refine u_jm (t := 190) (sc1 := []) rfl rfl rfl (by rw [h1_24]; rfl) ?_
                                                    show u_P L xs n d m_X12_valueOf 190 [(0, .ref 100), (1, .int a)] [] S R _
                                                    refine u_st rfl (fun _ => rfl) ?_
                                                    show u_P L xs n d m_X12_valueOf 191 [(0, .ref 100), (1, .int a)] [.ref 100] S R _
                                                    refine u_getE (v := S 99 60) rfl v_tyM rfl rfl ?_
                                                    refine u_st rfl (fun _ => rfl) ?_
                                                    show u_P L xs n d m_X12_valueOf 196 [(0, .ref 100), (1, .int a)] [.int (Int32.ofInt 12), .int (S 99 60)] S R _
                                                    refine u_irem rfl (fun b13 => ?_)
                                                    show u_P L xs n d m_X12_valueOf 197 [(0, .ref 100), (1, .int a)] [.int ((S 99 60) - (S 99 60) / (Int32.ofInt 12) * (Int32.ofInt 12))] S R _
                                                    exact u_ret rfl rfl ⟨_, rfl, rfl, by rw [f_X12_valueOf, if_neg h1_0, if_neg h1_1, if_neg h1_2, if_neg h1_3, if_neg h1_4, if_neg h1_5, if_neg h1_6, if_neg h1_7, if_neg h1_8, if_neg h1_9, if_neg h1_10, if_neg h1_11, if_neg h1_12, if_neg h1_13, if_neg h1_14, if_neg h1_15, if_neg h1_16, if_neg h1_17, if_neg h1_18, if_neg h1_19, if_neg h1_20, if_neg h1_21, if_neg h1_22, if_neg h1_23, if_pos h1_24], rfl⟩
                                                  · by_cases h1_25 : a = Int32.ofInt 122
                                                    · refine u_jm (t := 185) (sc1 := []) rfl rfl rfl (by rw [h1_25]; rfl) ?_
                                                      show u_P L xs n d m_X12_valueOf 185 [(0, .ref 100), (1, .int a)] [] S R _
                                                      refine u_st rfl (fun _ => rfl) ?_
                                                      show u_P L xs n d m_X12_valueOf 186 [(0, .ref 100), (1, .int a)] [.ref 100] S R _
                                                      refine u_getE (v := S 99 40) rfl v_tyM rfl rfl ?_
                                                      show u_P L xs n d m_X12_valueOf 189 [(0, .ref 100), (1, .int a)] [.int (S 99 40)] S R _
                                                      exact u_ret rfl rfl ⟨_, rfl, rfl, by rw [f_X12_valueOf, if_neg h1_0, if_neg h1_1, if_neg h1_2, if_neg h1_3, if_neg h1_4, if_neg h1_5, if_neg h1_6, if_neg h1_7, if_neg h1_8, if_neg h1_9, if_neg h1_10, if_neg h1_11, if_neg h1_12, if_neg h1_13, if_neg h1_14, if_neg h1_15, if_neg h1_16, if_neg h1_17, if_neg h1_18, if_neg h1_19, if_neg h1_20, if_neg h1_21, if_neg h1_22, if_neg h1_23, if_neg h1_24, if_pos h1_25], rfl⟩
                                                    · refine u_jm (t := 190) (sc1 := []) rfl rfl rfl (by rw [g_jmp]; rw [if_pos (by have := z_ne h1_0; have := z_ne h1_1; have := z_ne h1_2; have := z_ne h1_3; have := z_ne h1_4; have := z_ne h1_5; have := z_ne h1_6; have := z_ne h1_7; have := z_ne h1_8; have := z_ne h1_9; have := z_ne h1_10; have := z_ne h1_11; have := z_ne h1_12; have := z_ne h1_13; have := z_ne h1_14; have := z_ne h1_15; have := z_ne h1_16; have := z_ne h1_17; have := z_ne h1_18; have := z_ne h1_19; have := z_ne h1_20; have := z_ne h1_21; have := z_ne h1_22; have := z_ne h1_23; have := z_ne h1_24; have := z_ne h1_25; omega)]; rfl) ?_
                                                      show u_P L xs n d m_X12_valueOf 190 [(0, .ref 100), (1, .int a)] [] S R _
                                                      refine u_st rfl (fun _ => rfl) ?_
                                                      show u_P L xs n d m_X12_valueOf 191 [(0, .ref 100), (1, .int a)] [.ref 100] S R _
                                                      refine u_getE (v := S 99 60) rfl v_tyM rfl rfl ?_
                                                      refine u_st rfl (fun _ => rfl) ?_
                                                      show u_P L xs n d m_X12_valueOf 196 [(0, .ref 100), (1, .int a)] [.int (Int32.ofInt 12), .int (S 99 60)] S R _
                                                      refine u_irem rfl (fun b14 => ?_)
                                                      show u_P L xs n d m_X12_valueOf 197 [(0, .ref 100), (1, .int a)] [.int ((S 99 60) - (S 99 60) / (Int32.ofInt 12) * (Int32.ofInt 12))] S R _
                                                      exact u_ret rfl rfl ⟨_, rfl, rfl, by rw [f_X12_valueOf, if_neg h1_0, if_neg h1_1, if_neg h1_2, if_neg h1_3, if_neg h1_4, if_neg h1_5, if_neg h1_6, if_neg h1_7, if_neg h1_8, if_neg h1_9, if_neg h1_10, if_neg h1_11, if_neg h1_12, if_neg h1_13, if_neg h1_14, if_neg h1_15, if_neg h1_16, if_neg h1_17, if_neg h1_18, if_neg h1_19, if_neg h1_20, if_neg h1_21, if_neg h1_22, if_neg h1_23, if_neg h1_24, if_neg h1_25], rfl⟩
noncomputable abbrev m_X12_worked : g_M := (g_cn 12, yX12_worked, cX12_worked, 3, (some .int), g_look2 ttX12_worked)
set_option maxRecDepth 20000 in
theorem mt_X12_worked : g_mt 196 = some m_X12_worked := rfl
noncomputable def f_X12_worked (a : Int32) (b : Int32) (c : Int32) : Int32 := (if a = Int32.ofInt 37 then (if ¬ c = 0 then b - b / c * c else Int32.ofInt 0) else (if a = Int32.ofInt 42 then b * c else (if a = Int32.ofInt 43 then b + c else (if a = Int32.ofInt 45 then b - c else (if a = Int32.ofInt 47 then (if ¬ c = 0 then b / c else Int32.ofInt 0) else (if a = Int32.ofInt 60 then (if c ≤ b then Int32.ofInt 0 else Int32.ofInt 1) else (if a = Int32.ofInt 62 then (if b ≤ c then Int32.ofInt 0 else Int32.ofInt 1) else (if ¬ b = c then Int32.ofInt 0 else Int32.ofInt 1))))))))
set_option maxRecDepth 4000 in
theorem c_X12_worked (L : Nat) (xs : Nat → Int32) (n d : Nat) (a : Int32) (b : Int32) (c : Int32) (S : v_Sf) (R : v_Rf) : u_P L xs n d m_X12_worked 0 (lv_args 0 [.int a, .int b, .int c]) [] S R (z_Q R (fun v S1 => f_X12_worked a b c = v ∧ S = S1)) := by
  show u_P L xs n d m_X12_worked 0 [(0, .int a), (1, .int b), (2, .int c)] [] S R _
  refine u_st rfl (fun _ => rfl) ?_
  show u_P L xs n d m_X12_worked 1 [(0, .int a), (1, .int b), (2, .int c)] [.int a] S R _
  by_cases h1_0 : a = Int32.ofInt 37
  · refine u_jm (t := 92) (sc1 := []) rfl rfl rfl (by rw [h1_0]; rfl) ?_
    show u_P L xs n d m_X12_worked 92 [(0, .int a), (1, .int b), (2, .int c)] [] S R _
    refine u_st rfl (fun _ => rfl) ?_
    show u_P L xs n d m_X12_worked 93 [(0, .int a), (1, .int b), (2, .int c)] [.int c] S R _
    refine u_if_ne rfl (fun h2 => ?_) (fun h2 => ?_)
    · show u_P L xs n d m_X12_worked 100 [(0, .int a), (1, .int b), (2, .int c)] [] S R _
      refine u_st rfl (fun _ => rfl) ?_
      refine u_st rfl (fun _ => rfl) ?_
      show u_P L xs n d m_X12_worked 102 [(0, .int a), (1, .int b), (2, .int c)] [.int c, .int b] S R _
      refine u_irem rfl (fun b3 => ?_)
      show u_P L xs n d m_X12_worked 103 [(0, .int a), (1, .int b), (2, .int c)] [.int (b - b / c * c)] S R _
      exact u_ret rfl rfl ⟨_, rfl, rfl, by rw [f_X12_worked, if_pos h1_0, if_pos h2], rfl⟩
    · show u_P L xs n d m_X12_worked 96 [(0, .int a), (1, .int b), (2, .int c)] [] S R _
      refine u_st rfl (fun _ => rfl) ?_
      refine u_st rfl (fun _ => rfl) ?_
      show u_P L xs n d m_X12_worked 103 [(0, .int a), (1, .int b), (2, .int c)] [.int (Int32.ofInt 0)] S R _
      exact u_ret rfl rfl ⟨_, rfl, rfl, by rw [f_X12_worked, if_pos h1_0, if_neg h2], rfl⟩
  · by_cases h1_1 : a = Int32.ofInt 42
    · refine u_jm (t := 76) (sc1 := []) rfl rfl rfl (by rw [h1_1]; rfl) ?_
      show u_P L xs n d m_X12_worked 76 [(0, .int a), (1, .int b), (2, .int c)] [] S R _
      refine u_st rfl (fun _ => rfl) ?_
      refine u_st rfl (fun _ => rfl) ?_
      refine u_st rfl (fun _ => rfl) ?_
      show u_P L xs n d m_X12_worked 79 [(0, .int a), (1, .int b), (2, .int c)] [.int (b * c)] S R _
      exact u_ret rfl rfl ⟨_, rfl, rfl, by rw [f_X12_worked, if_neg h1_0, if_pos h1_1], rfl⟩
    · by_cases h1_2 : a = Int32.ofInt 43
      · refine u_jm (t := 68) (sc1 := []) rfl rfl rfl (by rw [h1_2]; rfl) ?_
        show u_P L xs n d m_X12_worked 68 [(0, .int a), (1, .int b), (2, .int c)] [] S R _
        refine u_st rfl (fun _ => rfl) ?_
        refine u_st rfl (fun _ => rfl) ?_
        refine u_st rfl (fun _ => rfl) ?_
        show u_P L xs n d m_X12_worked 71 [(0, .int a), (1, .int b), (2, .int c)] [.int (b + c)] S R _
        exact u_ret rfl rfl ⟨_, rfl, rfl, by rw [f_X12_worked, if_neg h1_0, if_neg h1_1, if_pos h1_2], rfl⟩
      · by_cases h1_3 : a = Int32.ofInt 45
        · refine u_jm (t := 72) (sc1 := []) rfl rfl rfl (by rw [h1_3]; rfl) ?_
          show u_P L xs n d m_X12_worked 72 [(0, .int a), (1, .int b), (2, .int c)] [] S R _
          refine u_st rfl (fun _ => rfl) ?_
          refine u_st rfl (fun _ => rfl) ?_
          refine u_st rfl (fun _ => rfl) ?_
          show u_P L xs n d m_X12_worked 75 [(0, .int a), (1, .int b), (2, .int c)] [.int (b - c)] S R _
          exact u_ret rfl rfl ⟨_, rfl, rfl, by rw [f_X12_worked, if_neg h1_0, if_neg h1_1, if_neg h1_2, if_pos h1_3], rfl⟩
        · by_cases h1_4 : a = Int32.ofInt 47
          · refine u_jm (t := 80) (sc1 := []) rfl rfl rfl (by rw [h1_4]; rfl) ?_
            show u_P L xs n d m_X12_worked 80 [(0, .int a), (1, .int b), (2, .int c)] [] S R _
            refine u_st rfl (fun _ => rfl) ?_
            show u_P L xs n d m_X12_worked 81 [(0, .int a), (1, .int b), (2, .int c)] [.int c] S R _
            refine u_if_ne rfl (fun h4 => ?_) (fun h4 => ?_)
            · show u_P L xs n d m_X12_worked 88 [(0, .int a), (1, .int b), (2, .int c)] [] S R _
              refine u_st rfl (fun _ => rfl) ?_
              refine u_st rfl (fun _ => rfl) ?_
              show u_P L xs n d m_X12_worked 90 [(0, .int a), (1, .int b), (2, .int c)] [.int c, .int b] S R _
              refine u_idiv rfl (fun b5 => ?_)
              show u_P L xs n d m_X12_worked 91 [(0, .int a), (1, .int b), (2, .int c)] [.int (b / c)] S R _
              exact u_ret rfl rfl ⟨_, rfl, rfl, by rw [f_X12_worked, if_neg h1_0, if_neg h1_1, if_neg h1_2, if_neg h1_3, if_pos h1_4, if_pos h4], rfl⟩
            · show u_P L xs n d m_X12_worked 84 [(0, .int a), (1, .int b), (2, .int c)] [] S R _
              refine u_st rfl (fun _ => rfl) ?_
              refine u_st rfl (fun _ => rfl) ?_
              show u_P L xs n d m_X12_worked 91 [(0, .int a), (1, .int b), (2, .int c)] [.int (Int32.ofInt 0)] S R _
              exact u_ret rfl rfl ⟨_, rfl, rfl, by rw [f_X12_worked, if_neg h1_0, if_neg h1_1, if_neg h1_2, if_neg h1_3, if_pos h1_4, if_neg h4], rfl⟩
          · by_cases h1_5 : a = Int32.ofInt 60
            · refine u_jm (t := 104) (sc1 := []) rfl rfl rfl (by rw [h1_5]; rfl) ?_
              show u_P L xs n d m_X12_worked 104 [(0, .int a), (1, .int b), (2, .int c)] [] S R _
              refine u_st rfl (fun _ => rfl) ?_
              refine u_st rfl (fun _ => rfl) ?_
              show u_P L xs n d m_X12_worked 106 [(0, .int a), (1, .int b), (2, .int c)] [.int c, .int b] S R _
              refine u_ic_ge rfl (fun h6 => ?_) (fun h6 => ?_)
              · show u_P L xs n d m_X12_worked 113 [(0, .int a), (1, .int b), (2, .int c)] [] S R _
                refine u_st rfl (fun _ => rfl) ?_
                show u_P L xs n d m_X12_worked 114 [(0, .int a), (1, .int b), (2, .int c)] [.int (Int32.ofInt 0)] S R _
                exact u_ret rfl rfl ⟨_, rfl, rfl, by rw [f_X12_worked, if_neg h1_0, if_neg h1_1, if_neg h1_2, if_neg h1_3, if_neg h1_4, if_pos h1_5, if_pos h6], rfl⟩
              · show u_P L xs n d m_X12_worked 109 [(0, .int a), (1, .int b), (2, .int c)] [] S R _
                refine u_st rfl (fun _ => rfl) ?_
                refine u_st rfl (fun _ => rfl) ?_
                show u_P L xs n d m_X12_worked 114 [(0, .int a), (1, .int b), (2, .int c)] [.int (Int32.ofInt 1)] S R _
                exact u_ret rfl rfl ⟨_, rfl, rfl, by rw [f_X12_worked, if_neg h1_0, if_neg h1_1, if_neg h1_2, if_neg h1_3, if_neg h1_4, if_pos h1_5, if_neg h6], rfl⟩
            · by_cases h1_6 : a = Int32.ofInt 62
              · refine u_jm (t := 115) (sc1 := []) rfl rfl rfl (by rw [h1_6]; rfl) ?_
                show u_P L xs n d m_X12_worked 115 [(0, .int a), (1, .int b), (2, .int c)] [] S R _
                refine u_st rfl (fun _ => rfl) ?_
                refine u_st rfl (fun _ => rfl) ?_
                show u_P L xs n d m_X12_worked 117 [(0, .int a), (1, .int b), (2, .int c)] [.int c, .int b] S R _
                refine u_ic_le rfl (fun h7 => ?_) (fun h7 => ?_)
                · show u_P L xs n d m_X12_worked 124 [(0, .int a), (1, .int b), (2, .int c)] [] S R _
                  refine u_st rfl (fun _ => rfl) ?_
                  show u_P L xs n d m_X12_worked 125 [(0, .int a), (1, .int b), (2, .int c)] [.int (Int32.ofInt 0)] S R _
                  exact u_ret rfl rfl ⟨_, rfl, rfl, by rw [f_X12_worked, if_neg h1_0, if_neg h1_1, if_neg h1_2, if_neg h1_3, if_neg h1_4, if_neg h1_5, if_pos h1_6, if_pos h7], rfl⟩
                · show u_P L xs n d m_X12_worked 120 [(0, .int a), (1, .int b), (2, .int c)] [] S R _
                  refine u_st rfl (fun _ => rfl) ?_
                  refine u_st rfl (fun _ => rfl) ?_
                  show u_P L xs n d m_X12_worked 125 [(0, .int a), (1, .int b), (2, .int c)] [.int (Int32.ofInt 1)] S R _
                  exact u_ret rfl rfl ⟨_, rfl, rfl, by rw [f_X12_worked, if_neg h1_0, if_neg h1_1, if_neg h1_2, if_neg h1_3, if_neg h1_4, if_neg h1_5, if_pos h1_6, if_neg h7], rfl⟩
              · refine u_jm (t := 126) (sc1 := []) rfl rfl rfl (by simp [g_jmp, g_tg, Op.lookupswitch.offset, z_en h1_0, z_en h1_1, z_en h1_2, z_en h1_3, z_en h1_4, z_en h1_5, z_en h1_6]) ?_
                show u_P L xs n d m_X12_worked 126 [(0, .int a), (1, .int b), (2, .int c)] [] S R _
                refine u_st rfl (fun _ => rfl) ?_
                refine u_st rfl (fun _ => rfl) ?_
                show u_P L xs n d m_X12_worked 128 [(0, .int a), (1, .int b), (2, .int c)] [.int c, .int b] S R _
                refine u_ic_ne rfl (fun h8 => ?_) (fun h8 => ?_)
                · show u_P L xs n d m_X12_worked 135 [(0, .int a), (1, .int b), (2, .int c)] [] S R _
                  refine u_st rfl (fun _ => rfl) ?_
                  show u_P L xs n d m_X12_worked 136 [(0, .int a), (1, .int b), (2, .int c)] [.int (Int32.ofInt 0)] S R _
                  exact u_ret rfl rfl ⟨_, rfl, rfl, by rw [f_X12_worked, if_neg h1_0, if_neg h1_1, if_neg h1_2, if_neg h1_3, if_neg h1_4, if_neg h1_5, if_neg h1_6, if_pos h8], rfl⟩
                · show u_P L xs n d m_X12_worked 131 [(0, .int a), (1, .int b), (2, .int c)] [] S R _
                  refine u_st rfl (fun _ => rfl) ?_
                  refine u_st rfl (fun _ => rfl) ?_
                  show u_P L xs n d m_X12_worked 136 [(0, .int a), (1, .int b), (2, .int c)] [.int (Int32.ofInt 1)] S R _
                  exact u_ret rfl rfl ⟨_, rfl, rfl, by rw [f_X12_worked, if_neg h1_0, if_neg h1_1, if_neg h1_2, if_neg h1_3, if_neg h1_4, if_neg h1_5, if_neg h1_6, if_neg h8], rfl⟩
noncomputable def g_X12_does (a : Int32) (b : Int32) (S : v_Sf) : v_Sf := (if a = (Int32.ofInt 38) then (if ¬ (S 115 b.toInt.toNat) = 0 then S else (if (S 114 b.toInt.toNat) = (Int32.ofInt 1) then z_s (z_s S 114 b.toInt.toNat (S 114 ((b + (Int32.ofInt 1)).toInt.toNat))) 115 b.toInt.toNat (u_nar 2 (S 115 ((b + (Int32.ofInt 1)).toInt.toNat))) else S)) else (if ¬ a = (Int32.ofInt 124) then (if ¬ (S 115 b.toInt.toNat) = 0 then z_s (z_s S 115 b.toInt.toNat (u_nar 2 (Int32.ofInt 1))) 114 b.toInt.toNat (f_X12_worked a (S 114 b.toInt.toNat) (S 114 ((b + (Int32.ofInt 1)).toInt.toNat))) else (if ¬ (S 115 ((b + (Int32.ofInt 1)).toInt.toNat)) = 0 then z_s (z_s S 115 b.toInt.toNat (u_nar 2 (Int32.ofInt 1))) 114 b.toInt.toNat (f_X12_worked a (S 114 b.toInt.toNat) (S 114 ((b + (Int32.ofInt 1)).toInt.toNat))) else (if a = (Int32.ofInt 47) then (if ¬ (S 114 ((b + (Int32.ofInt 1)).toInt.toNat)) = 0 then z_s (z_s S 115 b.toInt.toNat (u_nar 2 (Int32.ofInt 0))) 114 b.toInt.toNat (f_X12_worked a (S 114 b.toInt.toNat) (S 114 ((b + (Int32.ofInt 1)).toInt.toNat))) else z_s (z_s S 115 b.toInt.toNat (u_nar 2 (Int32.ofInt 1))) 114 b.toInt.toNat (f_X12_worked a (S 114 b.toInt.toNat) (S 114 ((b + (Int32.ofInt 1)).toInt.toNat)))) else (if ¬ a = (Int32.ofInt 37) then z_s (z_s S 115 b.toInt.toNat (u_nar 2 (Int32.ofInt 0))) 114 b.toInt.toNat (f_X12_worked a (S 114 b.toInt.toNat) (S 114 ((b + (Int32.ofInt 1)).toInt.toNat))) else (if ¬ (S 114 ((b + (Int32.ofInt 1)).toInt.toNat)) = 0 then z_s (z_s S 115 b.toInt.toNat (u_nar 2 (Int32.ofInt 0))) 114 b.toInt.toNat (f_X12_worked a (S 114 b.toInt.toNat) (S 114 ((b + (Int32.ofInt 1)).toInt.toNat))) else z_s (z_s S 115 b.toInt.toNat (u_nar 2 (Int32.ofInt 1))) 114 b.toInt.toNat (f_X12_worked a (S 114 b.toInt.toNat) (S 114 ((b + (Int32.ofInt 1)).toInt.toNat)))))))) else (if ¬ (S 115 b.toInt.toNat) = 0 then S else (if (S 114 b.toInt.toNat) = (Int32.ofInt 0) then z_s (z_s S 114 b.toInt.toNat (S 114 ((b + (Int32.ofInt 1)).toInt.toNat))) 115 b.toInt.toNat (u_nar 2 (S 115 ((b + (Int32.ofInt 1)).toInt.toNat))) else S))))
set_option maxRecDepth 4000 in
theorem c_X12_does (L : Nat) (xs : Nat → Int32) (n d : Nat) (a : Int32) (b : Int32) (S : v_Sf) (R : v_Rf) : u_P L xs n d m_X12_does 0 (lv_args 0 [.ref 100, .int a, .int b]) [] S R (z_V R (fun S1 => g_X12_does a b S = S1)) := by
  show u_P L xs n d m_X12_does 0 [(0, .ref 100), (1, .int a), (2, .int b)] [] S R _
  refine u_st rfl (fun _ => rfl) ?_
  refine u_st rfl (fun _ => rfl) ?_
  refine u_st rfl (fun _ => rfl) ?_
  refine u_st rfl (fun _ => rfl) ?_
  refine u_st rfl (fun _ => rfl) ?_
  refine u_st rfl (fun _ => rfl) ?_
  show u_P L xs n d m_X12_does 7 [(3, .int (b + (Int32.ofInt 1))), (0, .ref 100), (1, .int a), (2, .int b)] [.int (Int32.ofInt 38), .int a] S R _
  refine u_ic_eq rfl (fun h1 => ?_) (fun h1 => ?_)
  · show u_P L xs n d m_X12_does 16 [(3, .int (b + (Int32.ofInt 1))), (0, .ref 100), (1, .int a), (2, .int b)] [] S R _
    refine u_st rfl (fun _ => rfl) ?_
    show u_P L xs n d m_X12_does 17 [(3, .int (b + (Int32.ofInt 1))), (0, .ref 100), (1, .int a), (2, .int b)] [.ref 100] S R _
    refine u_getr rfl v_tyM rfl ?_
    refine u_st rfl (fun _ => rfl) ?_
    show u_P L xs n d m_X12_does 21 [(3, .int (b + (Int32.ofInt 1))), (0, .ref 100), (1, .int a), (2, .int b)] [.int b, .ref 116] S R _
    refine u_baldE (v := S 115 b.toInt.toNat) rfl rfl (by decide) rfl (fun b21 b22 => ?_)
    show u_P L xs n d m_X12_does 22 [(3, .int (b + (Int32.ofInt 1))), (0, .ref 100), (1, .int a), (2, .int b)] [.int (S 115 b.toInt.toNat)] S R _
    refine u_if_ne rfl (fun h3 => ?_) (fun h3 => ?_)
    · show u_P L xs n d m_X12_does 45 [(3, .int (b + (Int32.ofInt 1))), (0, .ref 100), (1, .int a), (2, .int b)] [] S R _
      exact u_ret rfl rfl ⟨rfl, rfl, by rw [g_X12_does, if_pos h1, if_pos h3]⟩
    · show u_P L xs n d m_X12_does 25 [(3, .int (b + (Int32.ofInt 1))), (0, .ref 100), (1, .int a), (2, .int b)] [] S R _
      refine u_st rfl (fun _ => rfl) ?_
      show u_P L xs n d m_X12_does 26 [(3, .int (b + (Int32.ofInt 1))), (0, .ref 100), (1, .int a), (2, .int b)] [.ref 100] S R _
      refine u_getr rfl v_tyM rfl ?_
      refine u_st rfl (fun _ => rfl) ?_
      show u_P L xs n d m_X12_does 30 [(3, .int (b + (Int32.ofInt 1))), (0, .ref 100), (1, .int a), (2, .int b)] [.int b, .ref 115] S R _
      refine u_ialdE (v := S 114 b.toInt.toNat) rfl rfl rfl (fun b41 b42 => ?_)
      refine u_st rfl (fun _ => rfl) ?_
      refine u_st rfl (fun _ => rfl) ?_
      show u_P L xs n d m_X12_does 34 [(3, .int (b + (Int32.ofInt 1))), (0, .ref 100), (1, .int a), (2, .int b)] [.int (Int32.ofInt 38), .int a, .int (S 114 b.toInt.toNat)] S R _
      refine u_ic_ne rfl (fun h5 => absurd h1 h5) (fun _ => ?_)
      show u_P L xs n d m_X12_does 37 [(3, .int (b + (Int32.ofInt 1))), (0, .ref 100), (1, .int a), (2, .int b)] [.int (S 114 b.toInt.toNat)] S R _
      refine u_st rfl (fun _ => rfl) ?_
      refine u_st rfl (fun _ => rfl) ?_
      show u_P L xs n d m_X12_does 42 [(3, .int (b + (Int32.ofInt 1))), (0, .ref 100), (1, .int a), (2, .int b)] [.int (Int32.ofInt 1), .int (S 114 b.toInt.toNat)] S R _
      refine u_ic_eq rfl (fun h6 => ?_) (fun h6 => ?_)
      · show u_P L xs n d m_X12_does 46 [(3, .int (b + (Int32.ofInt 1))), (0, .ref 100), (1, .int a), (2, .int b)] [] S R _
        refine u_st rfl (fun _ => rfl) ?_
        show u_P L xs n d m_X12_does 47 [(3, .int (b + (Int32.ofInt 1))), (0, .ref 100), (1, .int a), (2, .int b)] [.ref 100] S R _
        refine u_getr rfl v_tyM rfl ?_
        refine u_st rfl (fun _ => rfl) ?_
        refine u_st rfl (fun _ => rfl) ?_
        show u_P L xs n d m_X12_does 52 [(3, .int (b + (Int32.ofInt 1))), (0, .ref 100), (1, .int a), (2, .int b)] [.ref 100, .int b, .ref 115] S R _
        refine u_getr rfl v_tyM rfl ?_
        refine u_st rfl (fun _ => rfl) ?_
        show u_P L xs n d m_X12_does 56 [(3, .int (b + (Int32.ofInt 1))), (0, .ref 100), (1, .int a), (2, .int b)] [.int (b + (Int32.ofInt 1)), .ref 115, .int b, .ref 115] S R _
        refine u_ialdE (v := S 114 ((b + (Int32.ofInt 1)).toInt.toNat)) rfl rfl rfl (fun b71 b72 => ?_)
        show u_P L xs n d m_X12_does 57 [(3, .int (b + (Int32.ofInt 1))), (0, .ref 100), (1, .int a), (2, .int b)] [.int (S 114 ((b + (Int32.ofInt 1)).toInt.toNat)), .int b, .ref 115] S R _
        refine u_iast rfl rfl (fun b81 b82 => ?_)
        refine u_st rfl (fun _ => rfl) ?_
        show u_P L xs n d m_X12_does 59 [(3, .int (b + (Int32.ofInt 1))), (0, .ref 100), (1, .int a), (2, .int b)] [.ref 100] (z_s S 114 b.toInt.toNat (S 114 ((b + (Int32.ofInt 1)).toInt.toNat))) R _
        refine u_getr rfl v_tyM rfl ?_
        refine u_st rfl (fun _ => rfl) ?_
        refine u_st rfl (fun _ => rfl) ?_
        show u_P L xs n d m_X12_does 64 [(3, .int (b + (Int32.ofInt 1))), (0, .ref 100), (1, .int a), (2, .int b)] [.ref 100, .int b, .ref 116] (z_s S 114 b.toInt.toNat (S 114 ((b + (Int32.ofInt 1)).toInt.toNat))) R _
        refine u_getr rfl v_tyM rfl ?_
        refine u_st rfl (fun _ => rfl) ?_
        show u_P L xs n d m_X12_does 68 [(3, .int (b + (Int32.ofInt 1))), (0, .ref 100), (1, .int a), (2, .int b)] [.int (b + (Int32.ofInt 1)), .ref 116, .int b, .ref 116] (z_s S 114 b.toInt.toNat (S 114 ((b + (Int32.ofInt 1)).toInt.toNat))) R _
        refine u_baldE (v := S 115 ((b + (Int32.ofInt 1)).toInt.toNat)) rfl rfl (by decide) (z_sn (fun h => absurd h.1 (by decide))) (fun b91 b92 => ?_)
        show u_P L xs n d m_X12_does 69 [(3, .int (b + (Int32.ofInt 1))), (0, .ref 100), (1, .int a), (2, .int b)] [.int (S 115 ((b + (Int32.ofInt 1)).toInt.toNat)), .int b, .ref 116] (z_s S 114 b.toInt.toNat (S 114 ((b + (Int32.ofInt 1)).toInt.toNat))) R _
        refine u_bast rfl rfl (by decide) (fun b101 b102 => ?_)
        show u_P L xs n d m_X12_does 70 [(3, .int (b + (Int32.ofInt 1))), (0, .ref 100), (1, .int a), (2, .int b)] [] (z_s (z_s S 114 b.toInt.toNat (S 114 ((b + (Int32.ofInt 1)).toInt.toNat))) 115 b.toInt.toNat (u_nar 2 (S 115 ((b + (Int32.ofInt 1)).toInt.toNat)))) R _
        exact u_ret rfl rfl ⟨rfl, rfl, by rw [g_X12_does, if_pos h1, if_neg h3, if_pos h6]⟩
      · show u_P L xs n d m_X12_does 45 [(3, .int (b + (Int32.ofInt 1))), (0, .ref 100), (1, .int a), (2, .int b)] [] S R _
        exact u_ret rfl rfl ⟨rfl, rfl, by rw [g_X12_does, if_pos h1, if_neg h3, if_neg h6]⟩
  · show u_P L xs n d m_X12_does 10 [(3, .int (b + (Int32.ofInt 1))), (0, .ref 100), (1, .int a), (2, .int b)] [] S R _
    refine u_st rfl (fun _ => rfl) ?_
    refine u_st rfl (fun _ => rfl) ?_
    show u_P L xs n d m_X12_does 13 [(3, .int (b + (Int32.ofInt 1))), (0, .ref 100), (1, .int a), (2, .int b)] [.int (Int32.ofInt 124), .int a] S R _
    refine u_ic_ne rfl (fun h11 => ?_) (fun h11 => ?_)
    · show u_P L xs n d m_X12_does 71 [(3, .int (b + (Int32.ofInt 1))), (0, .ref 100), (1, .int a), (2, .int b)] [] S R _
      refine u_st rfl (fun _ => rfl) ?_
      show u_P L xs n d m_X12_does 72 [(3, .int (b + (Int32.ofInt 1))), (0, .ref 100), (1, .int a), (2, .int b)] [.ref 100] S R _
      refine u_getr rfl v_tyM rfl ?_
      refine u_st rfl (fun _ => rfl) ?_
      refine u_st rfl (fun _ => rfl) ?_
      show u_P L xs n d m_X12_does 77 [(3, .int (b + (Int32.ofInt 1))), (0, .ref 100), (1, .int a), (2, .int b)] [.ref 100, .int b, .ref 116] S R _
      refine u_getr rfl v_tyM rfl ?_
      refine u_st rfl (fun _ => rfl) ?_
      show u_P L xs n d m_X12_does 81 [(3, .int (b + (Int32.ofInt 1))), (0, .ref 100), (1, .int a), (2, .int b)] [.int b, .ref 116, .int b, .ref 116] S R _
      refine u_baldE (v := S 115 b.toInt.toNat) rfl rfl (by decide) rfl (fun b121 b122 => ?_)
      show u_P L xs n d m_X12_does 82 [(3, .int (b + (Int32.ofInt 1))), (0, .ref 100), (1, .int a), (2, .int b)] [.int (S 115 b.toInt.toNat), .int b, .ref 116] S R _
      refine u_if_ne rfl (fun h13 => ?_) (fun h13 => ?_)
      · show u_P L xs n d m_X12_does 115 [(3, .int (b + (Int32.ofInt 1))), (0, .ref 100), (1, .int a), (2, .int b)] [.int b, .ref 116] S R _
        refine u_st rfl (fun _ => rfl) ?_
        refine u_st rfl (fun _ => rfl) ?_
        show u_P L xs n d m_X12_does 120 [(3, .int (b + (Int32.ofInt 1))), (0, .ref 100), (1, .int a), (2, .int b)] [.int (Int32.ofInt 1), .int b, .ref 116] S R _
        refine u_bast rfl rfl (by decide) (fun b141 b142 => ?_)
        refine u_st rfl (fun _ => rfl) ?_
        show u_P L xs n d m_X12_does 122 [(3, .int (b + (Int32.ofInt 1))), (0, .ref 100), (1, .int a), (2, .int b)] [.ref 100] (z_s S 115 b.toInt.toNat (u_nar 2 (Int32.ofInt 1))) R _
        refine u_getr rfl v_tyM rfl ?_
        refine u_st rfl (fun _ => rfl) ?_
        refine u_st rfl (fun _ => rfl) ?_
        refine u_st rfl (fun _ => rfl) ?_
        show u_P L xs n d m_X12_does 128 [(3, .int (b + (Int32.ofInt 1))), (0, .ref 100), (1, .int a), (2, .int b)] [.ref 100, .int a, .int b, .ref 115] (z_s S 115 b.toInt.toNat (u_nar 2 (Int32.ofInt 1))) R _
        refine u_getr rfl v_tyM rfl ?_
        refine u_st rfl (fun _ => rfl) ?_
        show u_P L xs n d m_X12_does 132 [(3, .int (b + (Int32.ofInt 1))), (0, .ref 100), (1, .int a), (2, .int b)] [.int b, .ref 115, .int a, .int b, .ref 115] (z_s S 115 b.toInt.toNat (u_nar 2 (Int32.ofInt 1))) R _
        refine u_ialdE (v := S 114 b.toInt.toNat) rfl rfl (z_sn (fun h => absurd h.1 (by decide))) (fun b151 b152 => ?_)
        refine u_st rfl (fun _ => rfl) ?_
        show u_P L xs n d m_X12_does 134 [(3, .int (b + (Int32.ofInt 1))), (0, .ref 100), (1, .int a), (2, .int b)] [.ref 100, .int (S 114 b.toInt.toNat), .int a, .int b, .ref 115] (z_s S 115 b.toInt.toNat (u_nar 2 (Int32.ofInt 1))) R _
        refine u_getr rfl v_tyM rfl ?_
        refine u_st rfl (fun _ => rfl) ?_
        show u_P L xs n d m_X12_does 138 [(3, .int (b + (Int32.ofInt 1))), (0, .ref 100), (1, .int a), (2, .int b)] [.int (b + (Int32.ofInt 1)), .ref 115, .int (S 114 b.toInt.toNat), .int a, .int b, .ref 115] (z_s S 115 b.toInt.toNat (u_nar 2 (Int32.ofInt 1))) R _
        refine u_ialdE (v := S 114 ((b + (Int32.ofInt 1)).toInt.toNat)) rfl rfl (z_sn (fun h => absurd h.1 (by decide))) (fun b161 b162 => ?_)
        show u_P L xs n d m_X12_does 139 [(3, .int (b + (Int32.ofInt 1))), (0, .ref 100), (1, .int a), (2, .int b)] [.int (S 114 ((b + (Int32.ofInt 1)).toInt.toNat)), .int (S 114 b.toInt.toNat), .int a, .int b, .ref 115] (z_s S 115 b.toInt.toNat (u_nar 2 (Int32.ofInt 1))) R _
        refine u_cs (ac := [.int a, .int (S 114 b.toInt.toNat), .int (S 114 ((b + (Int32.ofInt 1)).toInt.toNat))]) (rest := [.int b, .ref 115]) rfl (by decide) mt_X12_worked (fun _ => rfl) (Nat.le_of_ble_eq_true rfl) (Nat.le_of_ble_eq_true rfl) (fun d' => c_X12_worked L xs n d' a (S 114 b.toInt.toNat) (S 114 ((b + (Int32.ofInt 1)).toInt.toNat)) (z_s S 115 b.toInt.toNat (u_nar 2 (Int32.ofInt 1))) R) ?_
        rintro _ _ _ ⟨_, rfl, rfl, rfl, rfl⟩
        show u_P L xs n d m_X12_does 142 [(3, .int (b + (Int32.ofInt 1))), (0, .ref 100), (1, .int a), (2, .int b)] [.int (f_X12_worked a (S 114 b.toInt.toNat) (S 114 ((b + (Int32.ofInt 1)).toInt.toNat))), .int b, .ref 115] (z_s S 115 b.toInt.toNat (u_nar 2 (Int32.ofInt 1))) R _
        refine u_iast rfl rfl (fun b171 b172 => ?_)
        show u_P L xs n d m_X12_does 143 [(3, .int (b + (Int32.ofInt 1))), (0, .ref 100), (1, .int a), (2, .int b)] [] (z_s (z_s S 115 b.toInt.toNat (u_nar 2 (Int32.ofInt 1))) 114 b.toInt.toNat (f_X12_worked a (S 114 b.toInt.toNat) (S 114 ((b + (Int32.ofInt 1)).toInt.toNat)))) R _
        exact u_ret rfl rfl ⟨rfl, rfl, by rw [g_X12_does, if_neg h1, if_pos h11, if_pos h13]⟩
      · show u_P L xs n d m_X12_does 85 [(3, .int (b + (Int32.ofInt 1))), (0, .ref 100), (1, .int a), (2, .int b)] [.int b, .ref 116] S R _
        refine u_st rfl (fun _ => rfl) ?_
        show u_P L xs n d m_X12_does 86 [(3, .int (b + (Int32.ofInt 1))), (0, .ref 100), (1, .int a), (2, .int b)] [.ref 100, .int b, .ref 116] S R _
        refine u_getr rfl v_tyM rfl ?_
        refine u_st rfl (fun _ => rfl) ?_
        show u_P L xs n d m_X12_does 90 [(3, .int (b + (Int32.ofInt 1))), (0, .ref 100), (1, .int a), (2, .int b)] [.int (b + (Int32.ofInt 1)), .ref 116, .int b, .ref 116] S R _
        refine u_baldE (v := S 115 ((b + (Int32.ofInt 1)).toInt.toNat)) rfl rfl (by decide) rfl (fun b181 b182 => ?_)
        show u_P L xs n d m_X12_does 91 [(3, .int (b + (Int32.ofInt 1))), (0, .ref 100), (1, .int a), (2, .int b)] [.int (S 115 ((b + (Int32.ofInt 1)).toInt.toNat)), .int b, .ref 116] S R _
        refine u_if_ne rfl (fun h19 => ?_) (fun h19 => ?_)
        · show u_P L xs n d m_X12_does 115 [(3, .int (b + (Int32.ofInt 1))), (0, .ref 100), (1, .int a), (2, .int b)] [.int b, .ref 116] S R _
          refine u_st rfl (fun _ => rfl) ?_
          refine u_st rfl (fun _ => rfl) ?_
          show u_P L xs n d m_X12_does 120 [(3, .int (b + (Int32.ofInt 1))), (0, .ref 100), (1, .int a), (2, .int b)] [.int (Int32.ofInt 1), .int b, .ref 116] S R _
          refine u_bast rfl rfl (by decide) (fun b201 b202 => ?_)
          refine u_st rfl (fun _ => rfl) ?_
          show u_P L xs n d m_X12_does 122 [(3, .int (b + (Int32.ofInt 1))), (0, .ref 100), (1, .int a), (2, .int b)] [.ref 100] (z_s S 115 b.toInt.toNat (u_nar 2 (Int32.ofInt 1))) R _
          refine u_getr rfl v_tyM rfl ?_
          refine u_st rfl (fun _ => rfl) ?_
          refine u_st rfl (fun _ => rfl) ?_
          refine u_st rfl (fun _ => rfl) ?_
          show u_P L xs n d m_X12_does 128 [(3, .int (b + (Int32.ofInt 1))), (0, .ref 100), (1, .int a), (2, .int b)] [.ref 100, .int a, .int b, .ref 115] (z_s S 115 b.toInt.toNat (u_nar 2 (Int32.ofInt 1))) R _
          refine u_getr rfl v_tyM rfl ?_
          refine u_st rfl (fun _ => rfl) ?_
          show u_P L xs n d m_X12_does 132 [(3, .int (b + (Int32.ofInt 1))), (0, .ref 100), (1, .int a), (2, .int b)] [.int b, .ref 115, .int a, .int b, .ref 115] (z_s S 115 b.toInt.toNat (u_nar 2 (Int32.ofInt 1))) R _
          refine u_ialdE (v := S 114 b.toInt.toNat) rfl rfl (z_sn (fun h => absurd h.1 (by decide))) (fun b211 b212 => ?_)
          refine u_st rfl (fun _ => rfl) ?_
          show u_P L xs n d m_X12_does 134 [(3, .int (b + (Int32.ofInt 1))), (0, .ref 100), (1, .int a), (2, .int b)] [.ref 100, .int (S 114 b.toInt.toNat), .int a, .int b, .ref 115] (z_s S 115 b.toInt.toNat (u_nar 2 (Int32.ofInt 1))) R _
          refine u_getr rfl v_tyM rfl ?_
          refine u_st rfl (fun _ => rfl) ?_
          show u_P L xs n d m_X12_does 138 [(3, .int (b + (Int32.ofInt 1))), (0, .ref 100), (1, .int a), (2, .int b)] [.int (b + (Int32.ofInt 1)), .ref 115, .int (S 114 b.toInt.toNat), .int a, .int b, .ref 115] (z_s S 115 b.toInt.toNat (u_nar 2 (Int32.ofInt 1))) R _
          refine u_ialdE (v := S 114 ((b + (Int32.ofInt 1)).toInt.toNat)) rfl rfl (z_sn (fun h => absurd h.1 (by decide))) (fun b221 b222 => ?_)
          show u_P L xs n d m_X12_does 139 [(3, .int (b + (Int32.ofInt 1))), (0, .ref 100), (1, .int a), (2, .int b)] [.int (S 114 ((b + (Int32.ofInt 1)).toInt.toNat)), .int (S 114 b.toInt.toNat), .int a, .int b, .ref 115] (z_s S 115 b.toInt.toNat (u_nar 2 (Int32.ofInt 1))) R _
          refine u_cs (ac := [.int a, .int (S 114 b.toInt.toNat), .int (S 114 ((b + (Int32.ofInt 1)).toInt.toNat))]) (rest := [.int b, .ref 115]) rfl (by decide) mt_X12_worked (fun _ => rfl) (Nat.le_of_ble_eq_true rfl) (Nat.le_of_ble_eq_true rfl) (fun d' => c_X12_worked L xs n d' a (S 114 b.toInt.toNat) (S 114 ((b + (Int32.ofInt 1)).toInt.toNat)) (z_s S 115 b.toInt.toNat (u_nar 2 (Int32.ofInt 1))) R) ?_
          rintro _ _ _ ⟨_, rfl, rfl, rfl, rfl⟩
          show u_P L xs n d m_X12_does 142 [(3, .int (b + (Int32.ofInt 1))), (0, .ref 100), (1, .int a), (2, .int b)] [.int (f_X12_worked a (S 114 b.toInt.toNat) (S 114 ((b + (Int32.ofInt 1)).toInt.toNat))), .int b, .ref 115] (z_s S 115 b.toInt.toNat (u_nar 2 (Int32.ofInt 1))) R _
          refine u_iast rfl rfl (fun b231 b232 => ?_)
          show u_P L xs n d m_X12_does 143 [(3, .int (b + (Int32.ofInt 1))), (0, .ref 100), (1, .int a), (2, .int b)] [] (z_s (z_s S 115 b.toInt.toNat (u_nar 2 (Int32.ofInt 1))) 114 b.toInt.toNat (f_X12_worked a (S 114 b.toInt.toNat) (S 114 ((b + (Int32.ofInt 1)).toInt.toNat)))) R _
          exact u_ret rfl rfl ⟨rfl, rfl, by rw [g_X12_does, if_neg h1, if_pos h11, if_neg h13, if_pos h19]⟩
        · show u_P L xs n d m_X12_does 94 [(3, .int (b + (Int32.ofInt 1))), (0, .ref 100), (1, .int a), (2, .int b)] [.int b, .ref 116] S R _
          refine u_st rfl (fun _ => rfl) ?_
          refine u_st rfl (fun _ => rfl) ?_
          show u_P L xs n d m_X12_does 97 [(3, .int (b + (Int32.ofInt 1))), (0, .ref 100), (1, .int a), (2, .int b)] [.int (Int32.ofInt 47), .int a, .int b, .ref 116] S R _
          refine u_ic_eq rfl (fun h24 => ?_) (fun h24 => ?_)
          · show u_P L xs n d m_X12_does 106 [(3, .int (b + (Int32.ofInt 1))), (0, .ref 100), (1, .int a), (2, .int b)] [.int b, .ref 116] S R _
            refine u_st rfl (fun _ => rfl) ?_
            show u_P L xs n d m_X12_does 107 [(3, .int (b + (Int32.ofInt 1))), (0, .ref 100), (1, .int a), (2, .int b)] [.ref 100, .int b, .ref 116] S R _
            refine u_getr rfl v_tyM rfl ?_
            refine u_st rfl (fun _ => rfl) ?_
            show u_P L xs n d m_X12_does 111 [(3, .int (b + (Int32.ofInt 1))), (0, .ref 100), (1, .int a), (2, .int b)] [.int (b + (Int32.ofInt 1)), .ref 115, .int b, .ref 116] S R _
            refine u_ialdE (v := S 114 ((b + (Int32.ofInt 1)).toInt.toNat)) rfl rfl rfl (fun b251 b252 => ?_)
            show u_P L xs n d m_X12_does 112 [(3, .int (b + (Int32.ofInt 1))), (0, .ref 100), (1, .int a), (2, .int b)] [.int (S 114 ((b + (Int32.ofInt 1)).toInt.toNat)), .int b, .ref 116] S R _
            refine u_if_ne rfl (fun h26 => ?_) (fun h26 => ?_)
            · show u_P L xs n d m_X12_does 119 [(3, .int (b + (Int32.ofInt 1))), (0, .ref 100), (1, .int a), (2, .int b)] [.int b, .ref 116] S R _
              refine u_st rfl (fun _ => rfl) ?_
              show u_P L xs n d m_X12_does 120 [(3, .int (b + (Int32.ofInt 1))), (0, .ref 100), (1, .int a), (2, .int b)] [.int (Int32.ofInt 0), .int b, .ref 116] S R _
              refine u_bast rfl rfl (by decide) (fun b271 b272 => ?_)
              refine u_st rfl (fun _ => rfl) ?_
              show u_P L xs n d m_X12_does 122 [(3, .int (b + (Int32.ofInt 1))), (0, .ref 100), (1, .int a), (2, .int b)] [.ref 100] (z_s S 115 b.toInt.toNat (u_nar 2 (Int32.ofInt 0))) R _
              refine u_getr rfl v_tyM rfl ?_
              refine u_st rfl (fun _ => rfl) ?_
              refine u_st rfl (fun _ => rfl) ?_
              refine u_st rfl (fun _ => rfl) ?_
              show u_P L xs n d m_X12_does 128 [(3, .int (b + (Int32.ofInt 1))), (0, .ref 100), (1, .int a), (2, .int b)] [.ref 100, .int a, .int b, .ref 115] (z_s S 115 b.toInt.toNat (u_nar 2 (Int32.ofInt 0))) R _
              refine u_getr rfl v_tyM rfl ?_
              refine u_st rfl (fun _ => rfl) ?_
              show u_P L xs n d m_X12_does 132 [(3, .int (b + (Int32.ofInt 1))), (0, .ref 100), (1, .int a), (2, .int b)] [.int b, .ref 115, .int a, .int b, .ref 115] (z_s S 115 b.toInt.toNat (u_nar 2 (Int32.ofInt 0))) R _
              refine u_ialdE (v := S 114 b.toInt.toNat) rfl rfl (z_sn (fun h => absurd h.1 (by decide))) (fun b281 b282 => ?_)
              refine u_st rfl (fun _ => rfl) ?_
              show u_P L xs n d m_X12_does 134 [(3, .int (b + (Int32.ofInt 1))), (0, .ref 100), (1, .int a), (2, .int b)] [.ref 100, .int (S 114 b.toInt.toNat), .int a, .int b, .ref 115] (z_s S 115 b.toInt.toNat (u_nar 2 (Int32.ofInt 0))) R _
              refine u_getr rfl v_tyM rfl ?_
              refine u_st rfl (fun _ => rfl) ?_
              show u_P L xs n d m_X12_does 138 [(3, .int (b + (Int32.ofInt 1))), (0, .ref 100), (1, .int a), (2, .int b)] [.int (b + (Int32.ofInt 1)), .ref 115, .int (S 114 b.toInt.toNat), .int a, .int b, .ref 115] (z_s S 115 b.toInt.toNat (u_nar 2 (Int32.ofInt 0))) R _
              refine u_ialdE (v := S 114 ((b + (Int32.ofInt 1)).toInt.toNat)) rfl rfl (z_sn (fun h => absurd h.1 (by decide))) (fun b291 b292 => ?_)
              show u_P L xs n d m_X12_does 139 [(3, .int (b + (Int32.ofInt 1))), (0, .ref 100), (1, .int a), (2, .int b)] [.int (S 114 ((b + (Int32.ofInt 1)).toInt.toNat)), .int (S 114 b.toInt.toNat), .int a, .int b, .ref 115] (z_s S 115 b.toInt.toNat (u_nar 2 (Int32.ofInt 0))) R _
              refine u_cs (ac := [.int a, .int (S 114 b.toInt.toNat), .int (S 114 ((b + (Int32.ofInt 1)).toInt.toNat))]) (rest := [.int b, .ref 115]) rfl (by decide) mt_X12_worked (fun _ => rfl) (Nat.le_of_ble_eq_true rfl) (Nat.le_of_ble_eq_true rfl) (fun d' => c_X12_worked L xs n d' a (S 114 b.toInt.toNat) (S 114 ((b + (Int32.ofInt 1)).toInt.toNat)) (z_s S 115 b.toInt.toNat (u_nar 2 (Int32.ofInt 0))) R) ?_
              rintro _ _ _ ⟨_, rfl, rfl, rfl, rfl⟩
              show u_P L xs n d m_X12_does 142 [(3, .int (b + (Int32.ofInt 1))), (0, .ref 100), (1, .int a), (2, .int b)] [.int (f_X12_worked a (S 114 b.toInt.toNat) (S 114 ((b + (Int32.ofInt 1)).toInt.toNat))), .int b, .ref 115] (z_s S 115 b.toInt.toNat (u_nar 2 (Int32.ofInt 0))) R _
              refine u_iast rfl rfl (fun b301 b302 => ?_)
              show u_P L xs n d m_X12_does 143 [(3, .int (b + (Int32.ofInt 1))), (0, .ref 100), (1, .int a), (2, .int b)] [] (z_s (z_s S 115 b.toInt.toNat (u_nar 2 (Int32.ofInt 0))) 114 b.toInt.toNat (f_X12_worked a (S 114 b.toInt.toNat) (S 114 ((b + (Int32.ofInt 1)).toInt.toNat)))) R _
              exact u_ret rfl rfl ⟨rfl, rfl, by rw [g_X12_does, if_neg h1, if_pos h11, if_neg h13, if_neg h19, if_pos h24, if_pos h26]⟩
            · show u_P L xs n d m_X12_does 115 [(3, .int (b + (Int32.ofInt 1))), (0, .ref 100), (1, .int a), (2, .int b)] [.int b, .ref 116] S R _
              refine u_st rfl (fun _ => rfl) ?_
              refine u_st rfl (fun _ => rfl) ?_
              show u_P L xs n d m_X12_does 120 [(3, .int (b + (Int32.ofInt 1))), (0, .ref 100), (1, .int a), (2, .int b)] [.int (Int32.ofInt 1), .int b, .ref 116] S R _
              refine u_bast rfl rfl (by decide) (fun b311 b312 => ?_)
              refine u_st rfl (fun _ => rfl) ?_
              show u_P L xs n d m_X12_does 122 [(3, .int (b + (Int32.ofInt 1))), (0, .ref 100), (1, .int a), (2, .int b)] [.ref 100] (z_s S 115 b.toInt.toNat (u_nar 2 (Int32.ofInt 1))) R _
              refine u_getr rfl v_tyM rfl ?_
              refine u_st rfl (fun _ => rfl) ?_
              refine u_st rfl (fun _ => rfl) ?_
              refine u_st rfl (fun _ => rfl) ?_
              show u_P L xs n d m_X12_does 128 [(3, .int (b + (Int32.ofInt 1))), (0, .ref 100), (1, .int a), (2, .int b)] [.ref 100, .int a, .int b, .ref 115] (z_s S 115 b.toInt.toNat (u_nar 2 (Int32.ofInt 1))) R _
              refine u_getr rfl v_tyM rfl ?_
              refine u_st rfl (fun _ => rfl) ?_
              show u_P L xs n d m_X12_does 132 [(3, .int (b + (Int32.ofInt 1))), (0, .ref 100), (1, .int a), (2, .int b)] [.int b, .ref 115, .int a, .int b, .ref 115] (z_s S 115 b.toInt.toNat (u_nar 2 (Int32.ofInt 1))) R _
              refine u_ialdE (v := S 114 b.toInt.toNat) rfl rfl (z_sn (fun h => absurd h.1 (by decide))) (fun b321 b322 => ?_)
              refine u_st rfl (fun _ => rfl) ?_
              show u_P L xs n d m_X12_does 134 [(3, .int (b + (Int32.ofInt 1))), (0, .ref 100), (1, .int a), (2, .int b)] [.ref 100, .int (S 114 b.toInt.toNat), .int a, .int b, .ref 115] (z_s S 115 b.toInt.toNat (u_nar 2 (Int32.ofInt 1))) R _
              refine u_getr rfl v_tyM rfl ?_
              refine u_st rfl (fun _ => rfl) ?_
              show u_P L xs n d m_X12_does 138 [(3, .int (b + (Int32.ofInt 1))), (0, .ref 100), (1, .int a), (2, .int b)] [.int (b + (Int32.ofInt 1)), .ref 115, .int (S 114 b.toInt.toNat), .int a, .int b, .ref 115] (z_s S 115 b.toInt.toNat (u_nar 2 (Int32.ofInt 1))) R _
              refine u_ialdE (v := S 114 ((b + (Int32.ofInt 1)).toInt.toNat)) rfl rfl (z_sn (fun h => absurd h.1 (by decide))) (fun b331 b332 => ?_)
              show u_P L xs n d m_X12_does 139 [(3, .int (b + (Int32.ofInt 1))), (0, .ref 100), (1, .int a), (2, .int b)] [.int (S 114 ((b + (Int32.ofInt 1)).toInt.toNat)), .int (S 114 b.toInt.toNat), .int a, .int b, .ref 115] (z_s S 115 b.toInt.toNat (u_nar 2 (Int32.ofInt 1))) R _
              refine u_cs (ac := [.int a, .int (S 114 b.toInt.toNat), .int (S 114 ((b + (Int32.ofInt 1)).toInt.toNat))]) (rest := [.int b, .ref 115]) rfl (by decide) mt_X12_worked (fun _ => rfl) (Nat.le_of_ble_eq_true rfl) (Nat.le_of_ble_eq_true rfl) (fun d' => c_X12_worked L xs n d' a (S 114 b.toInt.toNat) (S 114 ((b + (Int32.ofInt 1)).toInt.toNat)) (z_s S 115 b.toInt.toNat (u_nar 2 (Int32.ofInt 1))) R) ?_
              rintro _ _ _ ⟨_, rfl, rfl, rfl, rfl⟩
              show u_P L xs n d m_X12_does 142 [(3, .int (b + (Int32.ofInt 1))), (0, .ref 100), (1, .int a), (2, .int b)] [.int (f_X12_worked a (S 114 b.toInt.toNat) (S 114 ((b + (Int32.ofInt 1)).toInt.toNat))), .int b, .ref 115] (z_s S 115 b.toInt.toNat (u_nar 2 (Int32.ofInt 1))) R _
              refine u_iast rfl rfl (fun b341 b342 => ?_)
              show u_P L xs n d m_X12_does 143 [(3, .int (b + (Int32.ofInt 1))), (0, .ref 100), (1, .int a), (2, .int b)] [] (z_s (z_s S 115 b.toInt.toNat (u_nar 2 (Int32.ofInt 1))) 114 b.toInt.toNat (f_X12_worked a (S 114 b.toInt.toNat) (S 114 ((b + (Int32.ofInt 1)).toInt.toNat)))) R _
              exact u_ret rfl rfl ⟨rfl, rfl, by rw [g_X12_does, if_neg h1, if_pos h11, if_neg h13, if_neg h19, if_pos h24, if_neg h26]⟩
          · show u_P L xs n d m_X12_does 100 [(3, .int (b + (Int32.ofInt 1))), (0, .ref 100), (1, .int a), (2, .int b)] [.int b, .ref 116] S R _
            refine u_st rfl (fun _ => rfl) ?_
            refine u_st rfl (fun _ => rfl) ?_
            show u_P L xs n d m_X12_does 103 [(3, .int (b + (Int32.ofInt 1))), (0, .ref 100), (1, .int a), (2, .int b)] [.int (Int32.ofInt 37), .int a, .int b, .ref 116] S R _
            refine u_ic_ne rfl (fun h35 => ?_) (fun h35 => ?_)
            · show u_P L xs n d m_X12_does 119 [(3, .int (b + (Int32.ofInt 1))), (0, .ref 100), (1, .int a), (2, .int b)] [.int b, .ref 116] S R _
              refine u_st rfl (fun _ => rfl) ?_
              show u_P L xs n d m_X12_does 120 [(3, .int (b + (Int32.ofInt 1))), (0, .ref 100), (1, .int a), (2, .int b)] [.int (Int32.ofInt 0), .int b, .ref 116] S R _
              refine u_bast rfl rfl (by decide) (fun b361 b362 => ?_)
              refine u_st rfl (fun _ => rfl) ?_
              show u_P L xs n d m_X12_does 122 [(3, .int (b + (Int32.ofInt 1))), (0, .ref 100), (1, .int a), (2, .int b)] [.ref 100] (z_s S 115 b.toInt.toNat (u_nar 2 (Int32.ofInt 0))) R _
              refine u_getr rfl v_tyM rfl ?_
              refine u_st rfl (fun _ => rfl) ?_
              refine u_st rfl (fun _ => rfl) ?_
              refine u_st rfl (fun _ => rfl) ?_
              show u_P L xs n d m_X12_does 128 [(3, .int (b + (Int32.ofInt 1))), (0, .ref 100), (1, .int a), (2, .int b)] [.ref 100, .int a, .int b, .ref 115] (z_s S 115 b.toInt.toNat (u_nar 2 (Int32.ofInt 0))) R _
              refine u_getr rfl v_tyM rfl ?_
              refine u_st rfl (fun _ => rfl) ?_
              show u_P L xs n d m_X12_does 132 [(3, .int (b + (Int32.ofInt 1))), (0, .ref 100), (1, .int a), (2, .int b)] [.int b, .ref 115, .int a, .int b, .ref 115] (z_s S 115 b.toInt.toNat (u_nar 2 (Int32.ofInt 0))) R _
              refine u_ialdE (v := S 114 b.toInt.toNat) rfl rfl (z_sn (fun h => absurd h.1 (by decide))) (fun b371 b372 => ?_)
              refine u_st rfl (fun _ => rfl) ?_
              show u_P L xs n d m_X12_does 134 [(3, .int (b + (Int32.ofInt 1))), (0, .ref 100), (1, .int a), (2, .int b)] [.ref 100, .int (S 114 b.toInt.toNat), .int a, .int b, .ref 115] (z_s S 115 b.toInt.toNat (u_nar 2 (Int32.ofInt 0))) R _
              refine u_getr rfl v_tyM rfl ?_
              refine u_st rfl (fun _ => rfl) ?_
              show u_P L xs n d m_X12_does 138 [(3, .int (b + (Int32.ofInt 1))), (0, .ref 100), (1, .int a), (2, .int b)] [.int (b + (Int32.ofInt 1)), .ref 115, .int (S 114 b.toInt.toNat), .int a, .int b, .ref 115] (z_s S 115 b.toInt.toNat (u_nar 2 (Int32.ofInt 0))) R _
              refine u_ialdE (v := S 114 ((b + (Int32.ofInt 1)).toInt.toNat)) rfl rfl (z_sn (fun h => absurd h.1 (by decide))) (fun b381 b382 => ?_)
              show u_P L xs n d m_X12_does 139 [(3, .int (b + (Int32.ofInt 1))), (0, .ref 100), (1, .int a), (2, .int b)] [.int (S 114 ((b + (Int32.ofInt 1)).toInt.toNat)), .int (S 114 b.toInt.toNat), .int a, .int b, .ref 115] (z_s S 115 b.toInt.toNat (u_nar 2 (Int32.ofInt 0))) R _
              refine u_cs (ac := [.int a, .int (S 114 b.toInt.toNat), .int (S 114 ((b + (Int32.ofInt 1)).toInt.toNat))]) (rest := [.int b, .ref 115]) rfl (by decide) mt_X12_worked (fun _ => rfl) (Nat.le_of_ble_eq_true rfl) (Nat.le_of_ble_eq_true rfl) (fun d' => c_X12_worked L xs n d' a (S 114 b.toInt.toNat) (S 114 ((b + (Int32.ofInt 1)).toInt.toNat)) (z_s S 115 b.toInt.toNat (u_nar 2 (Int32.ofInt 0))) R) ?_
              rintro _ _ _ ⟨_, rfl, rfl, rfl, rfl⟩
              show u_P L xs n d m_X12_does 142 [(3, .int (b + (Int32.ofInt 1))), (0, .ref 100), (1, .int a), (2, .int b)] [.int (f_X12_worked a (S 114 b.toInt.toNat) (S 114 ((b + (Int32.ofInt 1)).toInt.toNat))), .int b, .ref 115] (z_s S 115 b.toInt.toNat (u_nar 2 (Int32.ofInt 0))) R _
              refine u_iast rfl rfl (fun b391 b392 => ?_)
              show u_P L xs n d m_X12_does 143 [(3, .int (b + (Int32.ofInt 1))), (0, .ref 100), (1, .int a), (2, .int b)] [] (z_s (z_s S 115 b.toInt.toNat (u_nar 2 (Int32.ofInt 0))) 114 b.toInt.toNat (f_X12_worked a (S 114 b.toInt.toNat) (S 114 ((b + (Int32.ofInt 1)).toInt.toNat)))) R _
              exact u_ret rfl rfl ⟨rfl, rfl, by rw [g_X12_does, if_neg h1, if_pos h11, if_neg h13, if_neg h19, if_neg h24, if_pos h35]⟩
            · show u_P L xs n d m_X12_does 106 [(3, .int (b + (Int32.ofInt 1))), (0, .ref 100), (1, .int a), (2, .int b)] [.int b, .ref 116] S R _
              refine u_st rfl (fun _ => rfl) ?_
              show u_P L xs n d m_X12_does 107 [(3, .int (b + (Int32.ofInt 1))), (0, .ref 100), (1, .int a), (2, .int b)] [.ref 100, .int b, .ref 116] S R _
              refine u_getr rfl v_tyM rfl ?_
              refine u_st rfl (fun _ => rfl) ?_
              show u_P L xs n d m_X12_does 111 [(3, .int (b + (Int32.ofInt 1))), (0, .ref 100), (1, .int a), (2, .int b)] [.int (b + (Int32.ofInt 1)), .ref 115, .int b, .ref 116] S R _
              refine u_ialdE (v := S 114 ((b + (Int32.ofInt 1)).toInt.toNat)) rfl rfl rfl (fun b401 b402 => ?_)
              show u_P L xs n d m_X12_does 112 [(3, .int (b + (Int32.ofInt 1))), (0, .ref 100), (1, .int a), (2, .int b)] [.int (S 114 ((b + (Int32.ofInt 1)).toInt.toNat)), .int b, .ref 116] S R _
              refine u_if_ne rfl (fun h41 => ?_) (fun h41 => ?_)
              · show u_P L xs n d m_X12_does 119 [(3, .int (b + (Int32.ofInt 1))), (0, .ref 100), (1, .int a), (2, .int b)] [.int b, .ref 116] S R _
                refine u_st rfl (fun _ => rfl) ?_
                show u_P L xs n d m_X12_does 120 [(3, .int (b + (Int32.ofInt 1))), (0, .ref 100), (1, .int a), (2, .int b)] [.int (Int32.ofInt 0), .int b, .ref 116] S R _
                refine u_bast rfl rfl (by decide) (fun b421 b422 => ?_)
                refine u_st rfl (fun _ => rfl) ?_
                show u_P L xs n d m_X12_does 122 [(3, .int (b + (Int32.ofInt 1))), (0, .ref 100), (1, .int a), (2, .int b)] [.ref 100] (z_s S 115 b.toInt.toNat (u_nar 2 (Int32.ofInt 0))) R _
                refine u_getr rfl v_tyM rfl ?_
                refine u_st rfl (fun _ => rfl) ?_
                refine u_st rfl (fun _ => rfl) ?_
                refine u_st rfl (fun _ => rfl) ?_
                show u_P L xs n d m_X12_does 128 [(3, .int (b + (Int32.ofInt 1))), (0, .ref 100), (1, .int a), (2, .int b)] [.ref 100, .int a, .int b, .ref 115] (z_s S 115 b.toInt.toNat (u_nar 2 (Int32.ofInt 0))) R _
                refine u_getr rfl v_tyM rfl ?_
                refine u_st rfl (fun _ => rfl) ?_
                show u_P L xs n d m_X12_does 132 [(3, .int (b + (Int32.ofInt 1))), (0, .ref 100), (1, .int a), (2, .int b)] [.int b, .ref 115, .int a, .int b, .ref 115] (z_s S 115 b.toInt.toNat (u_nar 2 (Int32.ofInt 0))) R _
                refine u_ialdE (v := S 114 b.toInt.toNat) rfl rfl (z_sn (fun h => absurd h.1 (by decide))) (fun b431 b432 => ?_)
                refine u_st rfl (fun _ => rfl) ?_
                show u_P L xs n d m_X12_does 134 [(3, .int (b + (Int32.ofInt 1))), (0, .ref 100), (1, .int a), (2, .int b)] [.ref 100, .int (S 114 b.toInt.toNat), .int a, .int b, .ref 115] (z_s S 115 b.toInt.toNat (u_nar 2 (Int32.ofInt 0))) R _
                refine u_getr rfl v_tyM rfl ?_
                refine u_st rfl (fun _ => rfl) ?_
                show u_P L xs n d m_X12_does 138 [(3, .int (b + (Int32.ofInt 1))), (0, .ref 100), (1, .int a), (2, .int b)] [.int (b + (Int32.ofInt 1)), .ref 115, .int (S 114 b.toInt.toNat), .int a, .int b, .ref 115] (z_s S 115 b.toInt.toNat (u_nar 2 (Int32.ofInt 0))) R _
                refine u_ialdE (v := S 114 ((b + (Int32.ofInt 1)).toInt.toNat)) rfl rfl (z_sn (fun h => absurd h.1 (by decide))) (fun b441 b442 => ?_)
                show u_P L xs n d m_X12_does 139 [(3, .int (b + (Int32.ofInt 1))), (0, .ref 100), (1, .int a), (2, .int b)] [.int (S 114 ((b + (Int32.ofInt 1)).toInt.toNat)), .int (S 114 b.toInt.toNat), .int a, .int b, .ref 115] (z_s S 115 b.toInt.toNat (u_nar 2 (Int32.ofInt 0))) R _
                refine u_cs (ac := [.int a, .int (S 114 b.toInt.toNat), .int (S 114 ((b + (Int32.ofInt 1)).toInt.toNat))]) (rest := [.int b, .ref 115]) rfl (by decide) mt_X12_worked (fun _ => rfl) (Nat.le_of_ble_eq_true rfl) (Nat.le_of_ble_eq_true rfl) (fun d' => c_X12_worked L xs n d' a (S 114 b.toInt.toNat) (S 114 ((b + (Int32.ofInt 1)).toInt.toNat)) (z_s S 115 b.toInt.toNat (u_nar 2 (Int32.ofInt 0))) R) ?_
                rintro _ _ _ ⟨_, rfl, rfl, rfl, rfl⟩
                show u_P L xs n d m_X12_does 142 [(3, .int (b + (Int32.ofInt 1))), (0, .ref 100), (1, .int a), (2, .int b)] [.int (f_X12_worked a (S 114 b.toInt.toNat) (S 114 ((b + (Int32.ofInt 1)).toInt.toNat))), .int b, .ref 115] (z_s S 115 b.toInt.toNat (u_nar 2 (Int32.ofInt 0))) R _
                refine u_iast rfl rfl (fun b451 b452 => ?_)
                show u_P L xs n d m_X12_does 143 [(3, .int (b + (Int32.ofInt 1))), (0, .ref 100), (1, .int a), (2, .int b)] [] (z_s (z_s S 115 b.toInt.toNat (u_nar 2 (Int32.ofInt 0))) 114 b.toInt.toNat (f_X12_worked a (S 114 b.toInt.toNat) (S 114 ((b + (Int32.ofInt 1)).toInt.toNat)))) R _
                exact u_ret rfl rfl ⟨rfl, rfl, by rw [g_X12_does, if_neg h1, if_pos h11, if_neg h13, if_neg h19, if_neg h24, if_neg h35, if_pos h41]⟩
              · show u_P L xs n d m_X12_does 115 [(3, .int (b + (Int32.ofInt 1))), (0, .ref 100), (1, .int a), (2, .int b)] [.int b, .ref 116] S R _
                refine u_st rfl (fun _ => rfl) ?_
                refine u_st rfl (fun _ => rfl) ?_
                show u_P L xs n d m_X12_does 120 [(3, .int (b + (Int32.ofInt 1))), (0, .ref 100), (1, .int a), (2, .int b)] [.int (Int32.ofInt 1), .int b, .ref 116] S R _
                refine u_bast rfl rfl (by decide) (fun b461 b462 => ?_)
                refine u_st rfl (fun _ => rfl) ?_
                show u_P L xs n d m_X12_does 122 [(3, .int (b + (Int32.ofInt 1))), (0, .ref 100), (1, .int a), (2, .int b)] [.ref 100] (z_s S 115 b.toInt.toNat (u_nar 2 (Int32.ofInt 1))) R _
                refine u_getr rfl v_tyM rfl ?_
                refine u_st rfl (fun _ => rfl) ?_
                refine u_st rfl (fun _ => rfl) ?_
                refine u_st rfl (fun _ => rfl) ?_
                show u_P L xs n d m_X12_does 128 [(3, .int (b + (Int32.ofInt 1))), (0, .ref 100), (1, .int a), (2, .int b)] [.ref 100, .int a, .int b, .ref 115] (z_s S 115 b.toInt.toNat (u_nar 2 (Int32.ofInt 1))) R _
                refine u_getr rfl v_tyM rfl ?_
                refine u_st rfl (fun _ => rfl) ?_
                show u_P L xs n d m_X12_does 132 [(3, .int (b + (Int32.ofInt 1))), (0, .ref 100), (1, .int a), (2, .int b)] [.int b, .ref 115, .int a, .int b, .ref 115] (z_s S 115 b.toInt.toNat (u_nar 2 (Int32.ofInt 1))) R _
                refine u_ialdE (v := S 114 b.toInt.toNat) rfl rfl (z_sn (fun h => absurd h.1 (by decide))) (fun b471 b472 => ?_)
                refine u_st rfl (fun _ => rfl) ?_
                show u_P L xs n d m_X12_does 134 [(3, .int (b + (Int32.ofInt 1))), (0, .ref 100), (1, .int a), (2, .int b)] [.ref 100, .int (S 114 b.toInt.toNat), .int a, .int b, .ref 115] (z_s S 115 b.toInt.toNat (u_nar 2 (Int32.ofInt 1))) R _
                refine u_getr rfl v_tyM rfl ?_
                refine u_st rfl (fun _ => rfl) ?_
                show u_P L xs n d m_X12_does 138 [(3, .int (b + (Int32.ofInt 1))), (0, .ref 100), (1, .int a), (2, .int b)] [.int (b + (Int32.ofInt 1)), .ref 115, .int (S 114 b.toInt.toNat), .int a, .int b, .ref 115] (z_s S 115 b.toInt.toNat (u_nar 2 (Int32.ofInt 1))) R _
                refine u_ialdE (v := S 114 ((b + (Int32.ofInt 1)).toInt.toNat)) rfl rfl (z_sn (fun h => absurd h.1 (by decide))) (fun b481 b482 => ?_)
                show u_P L xs n d m_X12_does 139 [(3, .int (b + (Int32.ofInt 1))), (0, .ref 100), (1, .int a), (2, .int b)] [.int (S 114 ((b + (Int32.ofInt 1)).toInt.toNat)), .int (S 114 b.toInt.toNat), .int a, .int b, .ref 115] (z_s S 115 b.toInt.toNat (u_nar 2 (Int32.ofInt 1))) R _
                refine u_cs (ac := [.int a, .int (S 114 b.toInt.toNat), .int (S 114 ((b + (Int32.ofInt 1)).toInt.toNat))]) (rest := [.int b, .ref 115]) rfl (by decide) mt_X12_worked (fun _ => rfl) (Nat.le_of_ble_eq_true rfl) (Nat.le_of_ble_eq_true rfl) (fun d' => c_X12_worked L xs n d' a (S 114 b.toInt.toNat) (S 114 ((b + (Int32.ofInt 1)).toInt.toNat)) (z_s S 115 b.toInt.toNat (u_nar 2 (Int32.ofInt 1))) R) ?_
                rintro _ _ _ ⟨_, rfl, rfl, rfl, rfl⟩
                show u_P L xs n d m_X12_does 142 [(3, .int (b + (Int32.ofInt 1))), (0, .ref 100), (1, .int a), (2, .int b)] [.int (f_X12_worked a (S 114 b.toInt.toNat) (S 114 ((b + (Int32.ofInt 1)).toInt.toNat))), .int b, .ref 115] (z_s S 115 b.toInt.toNat (u_nar 2 (Int32.ofInt 1))) R _
                refine u_iast rfl rfl (fun b491 b492 => ?_)
                show u_P L xs n d m_X12_does 143 [(3, .int (b + (Int32.ofInt 1))), (0, .ref 100), (1, .int a), (2, .int b)] [] (z_s (z_s S 115 b.toInt.toNat (u_nar 2 (Int32.ofInt 1))) 114 b.toInt.toNat (f_X12_worked a (S 114 b.toInt.toNat) (S 114 ((b + (Int32.ofInt 1)).toInt.toNat)))) R _
                exact u_ret rfl rfl ⟨rfl, rfl, by rw [g_X12_does, if_neg h1, if_pos h11, if_neg h13, if_neg h19, if_neg h24, if_neg h35, if_neg h41]⟩
    · show u_P L xs n d m_X12_does 16 [(3, .int (b + (Int32.ofInt 1))), (0, .ref 100), (1, .int a), (2, .int b)] [] S R _
      refine u_st rfl (fun _ => rfl) ?_
      show u_P L xs n d m_X12_does 17 [(3, .int (b + (Int32.ofInt 1))), (0, .ref 100), (1, .int a), (2, .int b)] [.ref 100] S R _
      refine u_getr rfl v_tyM rfl ?_
      refine u_st rfl (fun _ => rfl) ?_
      show u_P L xs n d m_X12_does 21 [(3, .int (b + (Int32.ofInt 1))), (0, .ref 100), (1, .int a), (2, .int b)] [.int b, .ref 116] S R _
      refine u_baldE (v := S 115 b.toInt.toNat) rfl rfl (by decide) rfl (fun b501 b502 => ?_)
      show u_P L xs n d m_X12_does 22 [(3, .int (b + (Int32.ofInt 1))), (0, .ref 100), (1, .int a), (2, .int b)] [.int (S 115 b.toInt.toNat)] S R _
      refine u_if_ne rfl (fun h51 => ?_) (fun h51 => ?_)
      · show u_P L xs n d m_X12_does 45 [(3, .int (b + (Int32.ofInt 1))), (0, .ref 100), (1, .int a), (2, .int b)] [] S R _
        exact u_ret rfl rfl ⟨rfl, rfl, by rw [g_X12_does, if_neg h1, if_neg h11, if_pos h51]⟩
      · show u_P L xs n d m_X12_does 25 [(3, .int (b + (Int32.ofInt 1))), (0, .ref 100), (1, .int a), (2, .int b)] [] S R _
        refine u_st rfl (fun _ => rfl) ?_
        show u_P L xs n d m_X12_does 26 [(3, .int (b + (Int32.ofInt 1))), (0, .ref 100), (1, .int a), (2, .int b)] [.ref 100] S R _
        refine u_getr rfl v_tyM rfl ?_
        refine u_st rfl (fun _ => rfl) ?_
        show u_P L xs n d m_X12_does 30 [(3, .int (b + (Int32.ofInt 1))), (0, .ref 100), (1, .int a), (2, .int b)] [.int b, .ref 115] S R _
        refine u_ialdE (v := S 114 b.toInt.toNat) rfl rfl rfl (fun b521 b522 => ?_)
        refine u_st rfl (fun _ => rfl) ?_
        refine u_st rfl (fun _ => rfl) ?_
        show u_P L xs n d m_X12_does 34 [(3, .int (b + (Int32.ofInt 1))), (0, .ref 100), (1, .int a), (2, .int b)] [.int (Int32.ofInt 38), .int a, .int (S 114 b.toInt.toNat)] S R _
        refine u_ic_ne rfl (fun _ => ?_) (fun h53 => absurd ((Classical.not_not.mp h11).symm.trans (Classical.not_not.mp h53)) (by decide))
        show u_P L xs n d m_X12_does 41 [(3, .int (b + (Int32.ofInt 1))), (0, .ref 100), (1, .int a), (2, .int b)] [.int (S 114 b.toInt.toNat)] S R _
        refine u_st rfl (fun _ => rfl) ?_
        show u_P L xs n d m_X12_does 42 [(3, .int (b + (Int32.ofInt 1))), (0, .ref 100), (1, .int a), (2, .int b)] [.int (Int32.ofInt 0), .int (S 114 b.toInt.toNat)] S R _
        refine u_ic_eq rfl (fun h54 => ?_) (fun h54 => ?_)
        · show u_P L xs n d m_X12_does 46 [(3, .int (b + (Int32.ofInt 1))), (0, .ref 100), (1, .int a), (2, .int b)] [] S R _
          refine u_st rfl (fun _ => rfl) ?_
          show u_P L xs n d m_X12_does 47 [(3, .int (b + (Int32.ofInt 1))), (0, .ref 100), (1, .int a), (2, .int b)] [.ref 100] S R _
          refine u_getr rfl v_tyM rfl ?_
          refine u_st rfl (fun _ => rfl) ?_
          refine u_st rfl (fun _ => rfl) ?_
          show u_P L xs n d m_X12_does 52 [(3, .int (b + (Int32.ofInt 1))), (0, .ref 100), (1, .int a), (2, .int b)] [.ref 100, .int b, .ref 115] S R _
          refine u_getr rfl v_tyM rfl ?_
          refine u_st rfl (fun _ => rfl) ?_
          show u_P L xs n d m_X12_does 56 [(3, .int (b + (Int32.ofInt 1))), (0, .ref 100), (1, .int a), (2, .int b)] [.int (b + (Int32.ofInt 1)), .ref 115, .int b, .ref 115] S R _
          refine u_ialdE (v := S 114 ((b + (Int32.ofInt 1)).toInt.toNat)) rfl rfl rfl (fun b551 b552 => ?_)
          show u_P L xs n d m_X12_does 57 [(3, .int (b + (Int32.ofInt 1))), (0, .ref 100), (1, .int a), (2, .int b)] [.int (S 114 ((b + (Int32.ofInt 1)).toInt.toNat)), .int b, .ref 115] S R _
          refine u_iast rfl rfl (fun b561 b562 => ?_)
          refine u_st rfl (fun _ => rfl) ?_
          show u_P L xs n d m_X12_does 59 [(3, .int (b + (Int32.ofInt 1))), (0, .ref 100), (1, .int a), (2, .int b)] [.ref 100] (z_s S 114 b.toInt.toNat (S 114 ((b + (Int32.ofInt 1)).toInt.toNat))) R _
          refine u_getr rfl v_tyM rfl ?_
          refine u_st rfl (fun _ => rfl) ?_
          refine u_st rfl (fun _ => rfl) ?_
          show u_P L xs n d m_X12_does 64 [(3, .int (b + (Int32.ofInt 1))), (0, .ref 100), (1, .int a), (2, .int b)] [.ref 100, .int b, .ref 116] (z_s S 114 b.toInt.toNat (S 114 ((b + (Int32.ofInt 1)).toInt.toNat))) R _
          refine u_getr rfl v_tyM rfl ?_
          refine u_st rfl (fun _ => rfl) ?_
          show u_P L xs n d m_X12_does 68 [(3, .int (b + (Int32.ofInt 1))), (0, .ref 100), (1, .int a), (2, .int b)] [.int (b + (Int32.ofInt 1)), .ref 116, .int b, .ref 116] (z_s S 114 b.toInt.toNat (S 114 ((b + (Int32.ofInt 1)).toInt.toNat))) R _
          refine u_baldE (v := S 115 ((b + (Int32.ofInt 1)).toInt.toNat)) rfl rfl (by decide) (z_sn (fun h => absurd h.1 (by decide))) (fun b571 b572 => ?_)
          show u_P L xs n d m_X12_does 69 [(3, .int (b + (Int32.ofInt 1))), (0, .ref 100), (1, .int a), (2, .int b)] [.int (S 115 ((b + (Int32.ofInt 1)).toInt.toNat)), .int b, .ref 116] (z_s S 114 b.toInt.toNat (S 114 ((b + (Int32.ofInt 1)).toInt.toNat))) R _
          refine u_bast rfl rfl (by decide) (fun b581 b582 => ?_)
          show u_P L xs n d m_X12_does 70 [(3, .int (b + (Int32.ofInt 1))), (0, .ref 100), (1, .int a), (2, .int b)] [] (z_s (z_s S 114 b.toInt.toNat (S 114 ((b + (Int32.ofInt 1)).toInt.toNat))) 115 b.toInt.toNat (u_nar 2 (S 115 ((b + (Int32.ofInt 1)).toInt.toNat)))) R _
          exact u_ret rfl rfl ⟨rfl, rfl, by rw [g_X12_does, if_neg h1, if_neg h11, if_neg h51, if_pos h54]⟩
        · show u_P L xs n d m_X12_does 45 [(3, .int (b + (Int32.ofInt 1))), (0, .ref 100), (1, .int a), (2, .int b)] [] S R _
          exact u_ret rfl rfl ⟨rfl, rfl, by rw [g_X12_does, if_neg h1, if_neg h11, if_neg h51, if_neg h54]⟩
noncomputable abbrev m_X12_isTold : g_M := (g_cn 12, yX12_isTold, cX12_isTold, 2, (some .boolean), g_look2 ttX12_isTold)
set_option maxRecDepth 20000 in
theorem mt_X12_isTold : g_mt 208 = some m_X12_isTold := rfl
noncomputable def f_X12_isTold (g : Int32) (S : v_Sf) : Int32 := (if (z_in g 0 11) = 0 then Int32.ofInt 0 else (if (S 116 g.toInt.toNat) = 0 then Int32.ofInt 0 else Int32.ofInt 1))
set_option maxRecDepth 4000 in
theorem c_X12_isTold (L : Nat) (xs : Nat → Int32) (n d : Nat) (g : Int32) (S : v_Sf) (R : v_Rf) : u_P L xs n d m_X12_isTold 0 (lv_args 0 [.ref 100, .int g]) [] S R (z_Q R (fun v S1 => f_X12_isTold g S = v ∧ S = S1)) := by
  show u_P L xs n d m_X12_isTold 0 [(0, .ref 100), (1, .int g)] [] S R _
  refine u_st rfl (fun _ => rfl) ?_
  refine u_st rfl (fun _ => rfl) ?_
  refine u_st rfl (fun _ => rfl) ?_
  refine u_st rfl (fun _ => rfl) ?_
  show u_P L xs n d m_X12_isTold 6 [(0, .ref 100), (1, .int g)] [.long (Int64.ofInt 11), .long (Int64.ofNat 0), .long g.toInt64] S R _
  refine u_cs (ac := [.long g.toInt64, .long (Int64.ofNat 0), .long (Int64.ofInt 11)]) (rest := []) rfl (by decide) mt_X12_lies (fun _ => rfl) (Nat.le_of_ble_eq_true rfl) (Nat.le_of_ble_eq_true rfl) (fun d' => z_liesC L xs n d' g (Int64.ofNat 0) (Int64.ofInt 11) (lo := 0) (hi := 11) rfl rfl S R) ?_
  rintro _ _ _ ⟨_, rfl, rfl, rfl, rfl⟩
  show u_P L xs n d m_X12_isTold 9 [(0, .ref 100), (1, .int g)] [.int (z_in g 0 11)] S R _
  refine u_if_eq rfl (fun h1 => ?_) (fun h1 => ?_)
  · show u_P L xs n d m_X12_isTold 25 [(0, .ref 100), (1, .int g)] [] S R _
    refine u_st rfl (fun _ => rfl) ?_
    show u_P L xs n d m_X12_isTold 26 [(0, .ref 100), (1, .int g)] [.int (Int32.ofInt 0)] S R _
    exact u_retb rfl rfl ⟨_, rfl, rfl, by rw [f_X12_isTold, if_pos h1], rfl⟩
  · show u_P L xs n d m_X12_isTold 12 [(0, .ref 100), (1, .int g)] [] S R _
    refine u_st rfl (fun _ => rfl) ?_
    show u_P L xs n d m_X12_isTold 13 [(0, .ref 100), (1, .int g)] [.ref 100] S R _
    refine u_getr rfl v_tyM rfl ?_
    refine u_st rfl (fun _ => rfl) ?_
    show u_P L xs n d m_X12_isTold 17 [(0, .ref 100), (1, .int g)] [.int g, .ref 117] S R _
    refine u_baldE (v := S 116 g.toInt.toNat) rfl rfl (by decide) rfl (fun b21 b22 => ?_)
    show u_P L xs n d m_X12_isTold 18 [(0, .ref 100), (1, .int g)] [.int (S 116 g.toInt.toNat)] S R _
    refine u_if_eq rfl (fun h3 => ?_) (fun h3 => ?_)
    · show u_P L xs n d m_X12_isTold 25 [(0, .ref 100), (1, .int g)] [] S R _
      refine u_st rfl (fun _ => rfl) ?_
      show u_P L xs n d m_X12_isTold 26 [(0, .ref 100), (1, .int g)] [.int (Int32.ofInt 0)] S R _
      exact u_retb rfl rfl ⟨_, rfl, rfl, by rw [f_X12_isTold, if_neg h1, if_pos h3], rfl⟩
    · show u_P L xs n d m_X12_isTold 21 [(0, .ref 100), (1, .int g)] [] S R _
      refine u_st rfl (fun _ => rfl) ?_
      refine u_st rfl (fun _ => rfl) ?_
      show u_P L xs n d m_X12_isTold 26 [(0, .ref 100), (1, .int g)] [.int (Int32.ofInt 1)] S R _
      exact u_retb rfl rfl ⟨_, rfl, rfl, by rw [f_X12_isTold, if_neg h1, if_neg h3], rfl⟩
noncomputable def f_X12_isWard (w : Int32) : Int32 := z_in w 0 5
set_option maxRecDepth 4000 in
theorem c_X12_isWard (L : Nat) (xs : Nat → Int32) (n d : Nat) (w : Int32) (S : v_Sf) (R : v_Rf) : u_P L xs n d m_X12_isWard 0 (lv_args 0 [.int w]) [] S R (z_Q R (fun v S1 => f_X12_isWard w = v ∧ S = S1)) := by
  show u_P L xs n d m_X12_isWard 0 [(0, .int w)] [] S R _
  refine u_st rfl (fun _ => rfl) ?_
  refine u_st rfl (fun _ => rfl) ?_
  refine u_st rfl (fun _ => rfl) ?_
  refine u_st rfl (fun _ => rfl) ?_
  show u_P L xs n d m_X12_isWard 6 [(0, .int w)] [.long (Int64.ofInt 5), .long (Int64.ofNat 0), .long w.toInt64] S R _
  refine u_cs (ac := [.long w.toInt64, .long (Int64.ofNat 0), .long (Int64.ofInt 5)]) (rest := []) rfl (by decide) mt_X12_lies (fun _ => rfl) (Nat.le_of_ble_eq_true rfl) (Nat.le_of_ble_eq_true rfl) (fun d' => z_liesC L xs n d' w (Int64.ofNat 0) (Int64.ofInt 5) (lo := 0) (hi := 5) rfl rfl S R) ?_
  rintro _ _ _ ⟨_, rfl, rfl, rfl, rfl⟩
  show u_P L xs n d m_X12_isWard 9 [(0, .int w)] [.int (z_in w 0 5)] S R _
  exact u_retb rfl rfl ⟨_, rfl, rfl, rfl, rfl⟩
noncomputable abbrev m_X12_isThere : g_M := (g_cn 12, yX12_isThere, cX12_isThere, 2, (some .boolean), g_look2 ttX12_isThere)
set_option maxRecDepth 20000 in
theorem mt_X12_isThere : g_mt 210 = some m_X12_isThere := rfl
noncomputable def f_X12_isThere (k : Int32) (S : v_Sf) : Int32 := (if (z_in k 0 4) = 0 then Int32.ofInt 0 else (if (S 129 k.toInt.toNat) = 0 then Int32.ofInt 0 else Int32.ofInt 1))
set_option maxRecDepth 4000 in
theorem c_X12_isThere (L : Nat) (xs : Nat → Int32) (n d : Nat) (k : Int32) (S : v_Sf) (R : v_Rf) : u_P L xs n d m_X12_isThere 0 (lv_args 0 [.ref 100, .int k]) [] S R (z_Q R (fun v S1 => f_X12_isThere k S = v ∧ S = S1)) := by
  show u_P L xs n d m_X12_isThere 0 [(0, .ref 100), (1, .int k)] [] S R _
  refine u_st rfl (fun _ => rfl) ?_
  refine u_st rfl (fun _ => rfl) ?_
  refine u_st rfl (fun _ => rfl) ?_
  refine u_st rfl (fun _ => rfl) ?_
  show u_P L xs n d m_X12_isThere 6 [(0, .ref 100), (1, .int k)] [.long (Int64.ofInt 4), .long (Int64.ofNat 0), .long k.toInt64] S R _
  refine u_cs (ac := [.long k.toInt64, .long (Int64.ofNat 0), .long (Int64.ofInt 4)]) (rest := []) rfl (by decide) mt_X12_lies (fun _ => rfl) (Nat.le_of_ble_eq_true rfl) (Nat.le_of_ble_eq_true rfl) (fun d' => z_liesC L xs n d' k (Int64.ofNat 0) (Int64.ofInt 4) (lo := 0) (hi := 4) rfl rfl S R) ?_
  rintro _ _ _ ⟨_, rfl, rfl, rfl, rfl⟩
  show u_P L xs n d m_X12_isThere 9 [(0, .ref 100), (1, .int k)] [.int (z_in k 0 4)] S R _
  refine u_if_eq rfl (fun h1 => ?_) (fun h1 => ?_)
  · show u_P L xs n d m_X12_isThere 25 [(0, .ref 100), (1, .int k)] [] S R _
    refine u_st rfl (fun _ => rfl) ?_
    show u_P L xs n d m_X12_isThere 26 [(0, .ref 100), (1, .int k)] [.int (Int32.ofInt 0)] S R _
    exact u_retb rfl rfl ⟨_, rfl, rfl, by rw [f_X12_isThere, if_pos h1], rfl⟩
  · show u_P L xs n d m_X12_isThere 12 [(0, .ref 100), (1, .int k)] [] S R _
    refine u_st rfl (fun _ => rfl) ?_
    show u_P L xs n d m_X12_isThere 13 [(0, .ref 100), (1, .int k)] [.ref 100] S R _
    refine u_getr rfl v_tyM rfl ?_
    refine u_st rfl (fun _ => rfl) ?_
    show u_P L xs n d m_X12_isThere 17 [(0, .ref 100), (1, .int k)] [.int k, .ref 130] S R _
    refine u_baldE (v := S 129 k.toInt.toNat) rfl rfl (by decide) rfl (fun b21 b22 => ?_)
    show u_P L xs n d m_X12_isThere 18 [(0, .ref 100), (1, .int k)] [.int (S 129 k.toInt.toNat)] S R _
    refine u_if_eq rfl (fun h3 => ?_) (fun h3 => ?_)
    · show u_P L xs n d m_X12_isThere 25 [(0, .ref 100), (1, .int k)] [] S R _
      refine u_st rfl (fun _ => rfl) ?_
      show u_P L xs n d m_X12_isThere 26 [(0, .ref 100), (1, .int k)] [.int (Int32.ofInt 0)] S R _
      exact u_retb rfl rfl ⟨_, rfl, rfl, by rw [f_X12_isThere, if_neg h1, if_pos h3], rfl⟩
    · show u_P L xs n d m_X12_isThere 21 [(0, .ref 100), (1, .int k)] [] S R _
      refine u_st rfl (fun _ => rfl) ?_
      refine u_st rfl (fun _ => rfl) ?_
      show u_P L xs n d m_X12_isThere 26 [(0, .ref 100), (1, .int k)] [.int (Int32.ofInt 1)] S R _
      exact u_retb rfl rfl ⟨_, rfl, rfl, by rw [f_X12_isThere, if_neg h1, if_neg h3], rfl⟩
noncomputable abbrev m_X12_areHabits : g_M := (g_cn 12, yX12_areHabits, cX12_areHabits, 1, (some .boolean), g_look2 ttX12_areHabits)
set_option maxRecDepth 20000 in
theorem mt_X12_areHabits : g_mt 211 = some m_X12_areHabits := rfl
noncomputable def f_X12_areHabits (a : Int32) : Int32 := z_in a 0 1023
set_option maxRecDepth 4000 in
theorem c_X12_areHabits (L : Nat) (xs : Nat → Int32) (n d : Nat) (a : Int32) (S : v_Sf) (R : v_Rf) : u_P L xs n d m_X12_areHabits 0 (lv_args 0 [.int a]) [] S R (z_Q R (fun v S1 => f_X12_areHabits a = v ∧ S = S1)) := by
  show u_P L xs n d m_X12_areHabits 0 [(0, .int a)] [] S R _
  refine u_st rfl (fun _ => rfl) ?_
  refine u_st rfl (fun _ => rfl) ?_
  refine u_st rfl (fun _ => rfl) ?_
  refine u_st rfl (fun _ => rfl) ?_
  show u_P L xs n d m_X12_areHabits 6 [(0, .int a)] [.long (Int64.ofInt 1023), .long (Int64.ofNat 0), .long a.toInt64] S R _
  refine u_cs (ac := [.long a.toInt64, .long (Int64.ofNat 0), .long (Int64.ofInt 1023)]) (rest := []) rfl (by decide) mt_X12_lies (fun _ => rfl) (Nat.le_of_ble_eq_true rfl) (Nat.le_of_ble_eq_true rfl) (fun d' => z_liesC L xs n d' a (Int64.ofNat 0) (Int64.ofInt 1023) (lo := 0) (hi := 1023) rfl rfl S R) ?_
  rintro _ _ _ ⟨_, rfl, rfl, rfl, rfl⟩
  show u_P L xs n d m_X12_areHabits 9 [(0, .int a)] [.int (z_in a 0 1023)] S R _
  exact u_retb rfl rfl ⟨_, rfl, rfl, rfl, rfl⟩
noncomputable abbrev m_X12_isIn : g_M := (g_cn 12, yX12_isIn, cX12_isIn, 3, (some .boolean), g_look2 ttX12_isIn)
set_option maxRecDepth 20000 in
theorem mt_X12_isIn : g_mt 212 = some m_X12_isIn := rfl
noncomputable def f_X12_isIn (g : Int32) (w : Int32) (S : v_Sf) : Int32 := (if (S 116 g.toInt.toNat) = 0 then Int32.ofInt 0 else (if ¬ (S 120 g.toInt.toNat) = w then Int32.ofInt 0 else Int32.ofInt 1))
set_option maxRecDepth 4000 in
theorem c_X12_isIn (L : Nat) (xs : Nat → Int32) (n d : Nat) (g : Int32) (w : Int32) (S : v_Sf) (R : v_Rf) : u_P L xs n d m_X12_isIn 0 (lv_args 0 [.ref 100, .int g, .int w]) [] S R (z_Q R (fun v S1 => f_X12_isIn g w S = v ∧ S = S1)) := by
  show u_P L xs n d m_X12_isIn 0 [(0, .ref 100), (1, .int g), (2, .int w)] [] S R _
  refine u_st rfl (fun _ => rfl) ?_
  show u_P L xs n d m_X12_isIn 1 [(0, .ref 100), (1, .int g), (2, .int w)] [.ref 100] S R _
  refine u_getr rfl v_tyM rfl ?_
  refine u_st rfl (fun _ => rfl) ?_
  show u_P L xs n d m_X12_isIn 5 [(0, .ref 100), (1, .int g), (2, .int w)] [.int g, .ref 117] S R _
  refine u_baldE (v := S 116 g.toInt.toNat) rfl rfl (by decide) rfl (fun b11 b12 => ?_)
  show u_P L xs n d m_X12_isIn 6 [(0, .ref 100), (1, .int g), (2, .int w)] [.int (S 116 g.toInt.toNat)] S R _
  refine u_if_eq rfl (fun h2 => ?_) (fun h2 => ?_)
  · show u_P L xs n d m_X12_isIn 23 [(0, .ref 100), (1, .int g), (2, .int w)] [] S R _
    refine u_st rfl (fun _ => rfl) ?_
    show u_P L xs n d m_X12_isIn 24 [(0, .ref 100), (1, .int g), (2, .int w)] [.int (Int32.ofInt 0)] S R _
    exact u_retb rfl rfl ⟨_, rfl, rfl, by rw [f_X12_isIn, if_pos h2], rfl⟩
  · show u_P L xs n d m_X12_isIn 9 [(0, .ref 100), (1, .int g), (2, .int w)] [] S R _
    refine u_st rfl (fun _ => rfl) ?_
    show u_P L xs n d m_X12_isIn 10 [(0, .ref 100), (1, .int g), (2, .int w)] [.ref 100] S R _
    refine u_getr rfl v_tyM rfl ?_
    refine u_st rfl (fun _ => rfl) ?_
    show u_P L xs n d m_X12_isIn 14 [(0, .ref 100), (1, .int g), (2, .int w)] [.int g, .ref 121] S R _
    refine u_ialdE (v := S 120 g.toInt.toNat) rfl rfl rfl (fun b31 b32 => ?_)
    refine u_st rfl (fun _ => rfl) ?_
    show u_P L xs n d m_X12_isIn 16 [(0, .ref 100), (1, .int g), (2, .int w)] [.int w, .int (S 120 g.toInt.toNat)] S R _
    refine u_ic_ne rfl (fun h4 => ?_) (fun h4 => ?_)
    · show u_P L xs n d m_X12_isIn 23 [(0, .ref 100), (1, .int g), (2, .int w)] [] S R _
      refine u_st rfl (fun _ => rfl) ?_
      show u_P L xs n d m_X12_isIn 24 [(0, .ref 100), (1, .int g), (2, .int w)] [.int (Int32.ofInt 0)] S R _
      exact u_retb rfl rfl ⟨_, rfl, rfl, by rw [f_X12_isIn, if_neg h2, if_pos h4], rfl⟩
    · show u_P L xs n d m_X12_isIn 19 [(0, .ref 100), (1, .int g), (2, .int w)] [] S R _
      refine u_st rfl (fun _ => rfl) ?_
      refine u_st rfl (fun _ => rfl) ?_
      show u_P L xs n d m_X12_isIn 24 [(0, .ref 100), (1, .int g), (2, .int w)] [.int (Int32.ofInt 1)] S R _
      exact u_retb rfl rfl ⟨_, rfl, rfl, by rw [f_X12_isIn, if_neg h2, if_neg h4], rfl⟩
noncomputable abbrev m_X12_nothingStands : g_M := (g_cn 12, yX12_nothingStands, cX12_nothingStands, 1, none, g_look2 ttX12_nothingStands)
set_option maxRecDepth 20000 in
theorem mt_X12_nothingStands : g_mt 202 = some m_X12_nothingStands := rfl
noncomputable def g_X12_nothingStands  (S : v_Sf) : v_Sf := z_s (z_s (z_s (z_s (z_s (z_s (z_s (z_s (z_s (z_s (z_s (z_s (z_s (z_s S 99 27 (Int32.ofInt 0)) 99 28 (Int32.ofInt 0)) 99 29 (Int32.ofInt 0)) 99 30 (Int32.ofInt 0)) 99 31 (Int32.ofInt 0)) 99 32 (Int32.ofInt 0)) 99 33 (Int32.ofInt 0)) 99 34 (Int32.ofInt 0)) 99 35 (Int32.ofInt 0)) 99 36 (Int32.ofInt 0)) 99 37 (Int32.ofInt 0)) 99 38 (Int32.ofInt 0)) 99 39 (Int32.ofInt 0)) 99 40 (Int32.ofInt 0)
set_option maxRecDepth 4000 in
theorem c_X12_nothingStands (L : Nat) (xs : Nat → Int32) (n d : Nat)  (S : v_Sf) (R : v_Rf) : u_P L xs n d m_X12_nothingStands 0 (lv_args 0 [.ref 100]) [] S R (z_V R (fun S1 => g_X12_nothingStands  S = S1)) := by
  show u_P L xs n d m_X12_nothingStands 0 [(0, .ref 100)] [] S R _
  refine u_st rfl (fun _ => rfl) ?_
  refine u_st rfl (fun _ => rfl) ?_
  show u_P L xs n d m_X12_nothingStands 2 [(0, .ref 100)] [.int (Int32.ofInt 0), .ref 100] S R _
  refine u_put rfl v_tyM rfl ?_
  refine u_st rfl (fun _ => rfl) ?_
  refine u_st rfl (fun _ => rfl) ?_
  show u_P L xs n d m_X12_nothingStands 7 [(0, .ref 100)] [.int (Int32.ofInt 0), .ref 100] (z_s S 99 27 (Int32.ofInt 0)) R _
  refine u_put rfl v_tyM rfl ?_
  refine u_st rfl (fun _ => rfl) ?_
  refine u_st rfl (fun _ => rfl) ?_
  show u_P L xs n d m_X12_nothingStands 12 [(0, .ref 100)] [.int (Int32.ofInt 0), .ref 100] (z_s (z_s S 99 27 (Int32.ofInt 0)) 99 28 (Int32.ofInt 0)) R _
  refine u_put rfl v_tyM rfl ?_
  refine u_st rfl (fun _ => rfl) ?_
  refine u_st rfl (fun _ => rfl) ?_
  show u_P L xs n d m_X12_nothingStands 17 [(0, .ref 100)] [.int (Int32.ofInt 0), .ref 100] (z_s (z_s (z_s S 99 27 (Int32.ofInt 0)) 99 28 (Int32.ofInt 0)) 99 29 (Int32.ofInt 0)) R _
  refine u_put rfl v_tyM rfl ?_
  refine u_st rfl (fun _ => rfl) ?_
  refine u_st rfl (fun _ => rfl) ?_
  show u_P L xs n d m_X12_nothingStands 22 [(0, .ref 100)] [.int (Int32.ofInt 0), .ref 100] (z_s (z_s (z_s (z_s S 99 27 (Int32.ofInt 0)) 99 28 (Int32.ofInt 0)) 99 29 (Int32.ofInt 0)) 99 30 (Int32.ofInt 0)) R _
  refine u_put rfl v_tyM rfl ?_
  refine u_st rfl (fun _ => rfl) ?_
  refine u_st rfl (fun _ => rfl) ?_
  show u_P L xs n d m_X12_nothingStands 27 [(0, .ref 100)] [.int (Int32.ofInt 0), .ref 100] (z_s (z_s (z_s (z_s (z_s S 99 27 (Int32.ofInt 0)) 99 28 (Int32.ofInt 0)) 99 29 (Int32.ofInt 0)) 99 30 (Int32.ofInt 0)) 99 31 (Int32.ofInt 0)) R _
  refine u_put rfl v_tyM rfl ?_
  refine u_st rfl (fun _ => rfl) ?_
  refine u_st rfl (fun _ => rfl) ?_
  show u_P L xs n d m_X12_nothingStands 32 [(0, .ref 100)] [.int (Int32.ofInt 0), .ref 100] (z_s (z_s (z_s (z_s (z_s (z_s S 99 27 (Int32.ofInt 0)) 99 28 (Int32.ofInt 0)) 99 29 (Int32.ofInt 0)) 99 30 (Int32.ofInt 0)) 99 31 (Int32.ofInt 0)) 99 32 (Int32.ofInt 0)) R _
  refine u_put rfl v_tyM rfl ?_
  refine u_st rfl (fun _ => rfl) ?_
  refine u_st rfl (fun _ => rfl) ?_
  show u_P L xs n d m_X12_nothingStands 37 [(0, .ref 100)] [.int (Int32.ofInt 0), .ref 100] (z_s (z_s (z_s (z_s (z_s (z_s (z_s S 99 27 (Int32.ofInt 0)) 99 28 (Int32.ofInt 0)) 99 29 (Int32.ofInt 0)) 99 30 (Int32.ofInt 0)) 99 31 (Int32.ofInt 0)) 99 32 (Int32.ofInt 0)) 99 33 (Int32.ofInt 0)) R _
  refine u_put rfl v_tyM rfl ?_
  refine u_st rfl (fun _ => rfl) ?_
  refine u_st rfl (fun _ => rfl) ?_
  show u_P L xs n d m_X12_nothingStands 42 [(0, .ref 100)] [.int (Int32.ofInt 0), .ref 100] (z_s (z_s (z_s (z_s (z_s (z_s (z_s (z_s S 99 27 (Int32.ofInt 0)) 99 28 (Int32.ofInt 0)) 99 29 (Int32.ofInt 0)) 99 30 (Int32.ofInt 0)) 99 31 (Int32.ofInt 0)) 99 32 (Int32.ofInt 0)) 99 33 (Int32.ofInt 0)) 99 34 (Int32.ofInt 0)) R _
  refine u_put rfl v_tyM rfl ?_
  refine u_st rfl (fun _ => rfl) ?_
  refine u_st rfl (fun _ => rfl) ?_
  show u_P L xs n d m_X12_nothingStands 47 [(0, .ref 100)] [.int (Int32.ofInt 0), .ref 100] (z_s (z_s (z_s (z_s (z_s (z_s (z_s (z_s (z_s S 99 27 (Int32.ofInt 0)) 99 28 (Int32.ofInt 0)) 99 29 (Int32.ofInt 0)) 99 30 (Int32.ofInt 0)) 99 31 (Int32.ofInt 0)) 99 32 (Int32.ofInt 0)) 99 33 (Int32.ofInt 0)) 99 34 (Int32.ofInt 0)) 99 35 (Int32.ofInt 0)) R _
  refine u_put rfl v_tyM rfl ?_
  refine u_st rfl (fun _ => rfl) ?_
  refine u_st rfl (fun _ => rfl) ?_
  show u_P L xs n d m_X12_nothingStands 52 [(0, .ref 100)] [.int (Int32.ofInt 0), .ref 100] (z_s (z_s (z_s (z_s (z_s (z_s (z_s (z_s (z_s (z_s S 99 27 (Int32.ofInt 0)) 99 28 (Int32.ofInt 0)) 99 29 (Int32.ofInt 0)) 99 30 (Int32.ofInt 0)) 99 31 (Int32.ofInt 0)) 99 32 (Int32.ofInt 0)) 99 33 (Int32.ofInt 0)) 99 34 (Int32.ofInt 0)) 99 35 (Int32.ofInt 0)) 99 36 (Int32.ofInt 0)) R _
  refine u_put rfl v_tyM rfl ?_
  refine u_st rfl (fun _ => rfl) ?_
  refine u_st rfl (fun _ => rfl) ?_
  show u_P L xs n d m_X12_nothingStands 57 [(0, .ref 100)] [.int (Int32.ofInt 0), .ref 100] (z_s (z_s (z_s (z_s (z_s (z_s (z_s (z_s (z_s (z_s (z_s S 99 27 (Int32.ofInt 0)) 99 28 (Int32.ofInt 0)) 99 29 (Int32.ofInt 0)) 99 30 (Int32.ofInt 0)) 99 31 (Int32.ofInt 0)) 99 32 (Int32.ofInt 0)) 99 33 (Int32.ofInt 0)) 99 34 (Int32.ofInt 0)) 99 35 (Int32.ofInt 0)) 99 36 (Int32.ofInt 0)) 99 37 (Int32.ofInt 0)) R _
  refine u_put rfl v_tyM rfl ?_
  refine u_st rfl (fun _ => rfl) ?_
  refine u_st rfl (fun _ => rfl) ?_
  show u_P L xs n d m_X12_nothingStands 62 [(0, .ref 100)] [.int (Int32.ofInt 0), .ref 100] (z_s (z_s (z_s (z_s (z_s (z_s (z_s (z_s (z_s (z_s (z_s (z_s S 99 27 (Int32.ofInt 0)) 99 28 (Int32.ofInt 0)) 99 29 (Int32.ofInt 0)) 99 30 (Int32.ofInt 0)) 99 31 (Int32.ofInt 0)) 99 32 (Int32.ofInt 0)) 99 33 (Int32.ofInt 0)) 99 34 (Int32.ofInt 0)) 99 35 (Int32.ofInt 0)) 99 36 (Int32.ofInt 0)) 99 37 (Int32.ofInt 0)) 99 38 (Int32.ofInt 0)) R _
  refine u_put rfl v_tyM rfl ?_
  refine u_st rfl (fun _ => rfl) ?_
  refine u_st rfl (fun _ => rfl) ?_
  show u_P L xs n d m_X12_nothingStands 67 [(0, .ref 100)] [.int (Int32.ofInt 0), .ref 100] (z_s (z_s (z_s (z_s (z_s (z_s (z_s (z_s (z_s (z_s (z_s (z_s (z_s S 99 27 (Int32.ofInt 0)) 99 28 (Int32.ofInt 0)) 99 29 (Int32.ofInt 0)) 99 30 (Int32.ofInt 0)) 99 31 (Int32.ofInt 0)) 99 32 (Int32.ofInt 0)) 99 33 (Int32.ofInt 0)) 99 34 (Int32.ofInt 0)) 99 35 (Int32.ofInt 0)) 99 36 (Int32.ofInt 0)) 99 37 (Int32.ofInt 0)) 99 38 (Int32.ofInt 0)) 99 39 (Int32.ofInt 0)) R _
  refine u_put rfl v_tyM rfl ?_
  show u_P L xs n d m_X12_nothingStands 70 [(0, .ref 100)] [] (z_s (z_s (z_s (z_s (z_s (z_s (z_s (z_s (z_s (z_s (z_s (z_s (z_s (z_s S 99 27 (Int32.ofInt 0)) 99 28 (Int32.ofInt 0)) 99 29 (Int32.ofInt 0)) 99 30 (Int32.ofInt 0)) 99 31 (Int32.ofInt 0)) 99 32 (Int32.ofInt 0)) 99 33 (Int32.ofInt 0)) 99 34 (Int32.ofInt 0)) 99 35 (Int32.ofInt 0)) 99 36 (Int32.ofInt 0)) 99 37 (Int32.ofInt 0)) 99 38 (Int32.ofInt 0)) 99 39 (Int32.ofInt 0)) 99 40 (Int32.ofInt 0)) R _
  exact u_ret rfl rfl ⟨rfl, rfl, rfl⟩
noncomputable abbrev m_X12_isWell : g_M := (g_cn 12, yX12_isWell, cX12_isWell, 2, (some .boolean), g_look2 ttX12_isWell)
set_option maxRecDepth 20000 in
theorem mt_X12_isWell : g_mt 229 = some m_X12_isWell := rfl
noncomputable def f_X12_isWell (w : Int32) (S : v_Sf) : Int32 := (if (f_X12_isThere (S 125 w.toInt.toNat) S) = 0 then Int32.ofInt 0 else (if ¬ (S 131 ((S 125 w.toInt.toNat).toInt.toNat)) = 0 then Int32.ofInt 0 else Int32.ofInt 1))
set_option maxRecDepth 4000 in
theorem c_X12_isWell (L : Nat) (xs : Nat → Int32) (n d : Nat) (w : Int32) (S : v_Sf) (R : v_Rf) : u_P L xs n d m_X12_isWell 0 (lv_args 0 [.ref 100, .int w]) [] S R (z_Q R (fun v S1 => f_X12_isWell w S = v ∧ S = S1)) := by
  show u_P L xs n d m_X12_isWell 0 [(0, .ref 100), (1, .int w)] [] S R _
  refine u_st rfl (fun _ => rfl) ?_
  refine u_st rfl (fun _ => rfl) ?_
  show u_P L xs n d m_X12_isWell 2 [(0, .ref 100), (1, .int w)] [.ref 100, .ref 100] S R _
  refine u_getr rfl v_tyM rfl ?_
  refine u_st rfl (fun _ => rfl) ?_
  show u_P L xs n d m_X12_isWell 6 [(0, .ref 100), (1, .int w)] [.int w, .ref 126, .ref 100] S R _
  refine u_ialdE (v := S 125 w.toInt.toNat) rfl rfl rfl (fun b11 b12 => ?_)
  show u_P L xs n d m_X12_isWell 7 [(0, .ref 100), (1, .int w)] [.int (S 125 w.toInt.toNat), .ref 100] S R _
  refine u_cv (rest := []) rfl (by decide) mt_X12_isThere v_tyM rfl rfl rfl (Nat.le_of_ble_eq_true rfl) (Nat.le_of_ble_eq_true rfl) (Nat.le_of_ble_eq_true rfl) (fun d' => c_X12_isThere L xs n d' (S 125 w.toInt.toNat) S R) ?_
  rintro _ _ _ ⟨_, rfl, rfl, rfl, rfl⟩
  show u_P L xs n d m_X12_isWell 10 [(0, .ref 100), (1, .int w)] [.int (f_X12_isThere (S 125 w.toInt.toNat) S)] S R _
  refine u_if_eq rfl (fun h2 => ?_) (fun h2 => ?_)
  · show u_P L xs n d m_X12_isWell 31 [(0, .ref 100), (1, .int w)] [] S R _
    refine u_st rfl (fun _ => rfl) ?_
    show u_P L xs n d m_X12_isWell 32 [(0, .ref 100), (1, .int w)] [.int (Int32.ofInt 0)] S R _
    exact u_retb rfl rfl ⟨_, rfl, rfl, by rw [f_X12_isWell, if_pos h2], rfl⟩
  · show u_P L xs n d m_X12_isWell 13 [(0, .ref 100), (1, .int w)] [] S R _
    refine u_st rfl (fun _ => rfl) ?_
    show u_P L xs n d m_X12_isWell 14 [(0, .ref 100), (1, .int w)] [.ref 100] S R _
    refine u_getr rfl v_tyM rfl ?_
    refine u_st rfl (fun _ => rfl) ?_
    show u_P L xs n d m_X12_isWell 18 [(0, .ref 100), (1, .int w)] [.ref 100, .ref 132] S R _
    refine u_getr rfl v_tyM rfl ?_
    refine u_st rfl (fun _ => rfl) ?_
    show u_P L xs n d m_X12_isWell 22 [(0, .ref 100), (1, .int w)] [.int w, .ref 126, .ref 132] S R _
    refine u_ialdE (v := S 125 w.toInt.toNat) rfl rfl rfl (fun b31 b32 => ?_)
    show u_P L xs n d m_X12_isWell 23 [(0, .ref 100), (1, .int w)] [.int (S 125 w.toInt.toNat), .ref 132] S R _
    refine u_ialdE (v := S 131 ((S 125 w.toInt.toNat).toInt.toNat)) rfl rfl rfl (fun b41 b42 => ?_)
    show u_P L xs n d m_X12_isWell 24 [(0, .ref 100), (1, .int w)] [.int (S 131 ((S 125 w.toInt.toNat).toInt.toNat))] S R _
    refine u_if_ne rfl (fun h5 => ?_) (fun h5 => ?_)
    · show u_P L xs n d m_X12_isWell 31 [(0, .ref 100), (1, .int w)] [] S R _
      refine u_st rfl (fun _ => rfl) ?_
      show u_P L xs n d m_X12_isWell 32 [(0, .ref 100), (1, .int w)] [.int (Int32.ofInt 0)] S R _
      exact u_retb rfl rfl ⟨_, rfl, rfl, by rw [f_X12_isWell, if_neg h2, if_pos h5], rfl⟩
    · show u_P L xs n d m_X12_isWell 27 [(0, .ref 100), (1, .int w)] [] S R _
      refine u_st rfl (fun _ => rfl) ?_
      refine u_st rfl (fun _ => rfl) ?_
      show u_P L xs n d m_X12_isWell 32 [(0, .ref 100), (1, .int w)] [.int (Int32.ofInt 1)] S R _
      exact u_retb rfl rfl ⟨_, rfl, rfl, by rw [f_X12_isWell, if_neg h2, if_neg h5], rfl⟩
noncomputable abbrev m_X12_gust : g_M := (g_cn 12, yX12_gust, cX12_gust, 6, (some .boolean), g_look2 ttX12_gust)
set_option maxRecDepth 20000 in
theorem mt_X12_gust : g_mt 215 = some m_X12_gust := rfl
noncomputable def f_X12_gust (g : Int32) (a : Int32) (b : Int32) (w : Int32) (l : Int32) (S : v_Sf) : Int32 := (if (z_in g 0 11) = 0 then Int32.ofInt 0 else (if (z_in a 0 99) = 0 then Int32.ofInt 0 else (if (z_in b 0 9) = 0 then Int32.ofInt 0 else (if (f_X12_isWard w) = 0 then Int32.ofInt 0 else (if ¬ (z_in l 0 9) = 0 then Int32.ofInt 1 else Int32.ofInt 0)))))
noncomputable def g_X12_gust (g : Int32) (a : Int32) (b : Int32) (w : Int32) (l : Int32) (S : v_Sf) : v_Sf := (if (z_in g 0 11) = 0 then S else (if (z_in a 0 99) = 0 then S else (if (z_in b 0 9) = 0 then S else (if (f_X12_isWard w) = 0 then S else (if ¬ (z_in l 0 9) = 0 then z_s (z_s (z_s (z_s (z_s (z_s (z_s S 116 g.toInt.toNat (u_nar 2 (Int32.ofInt 1))) 117 g.toInt.toNat a) 118 g.toInt.toNat (Int32.ofInt (-1))) 119 g.toInt.toNat b) 120 g.toInt.toNat w) 121 g.toInt.toNat l) 122 g.toInt.toNat (Int32.ofInt 0) else S)))))
set_option maxRecDepth 4000 in
theorem c_X12_gust (L : Nat) (xs : Nat → Int32) (n d : Nat) (g : Int32) (a : Int32) (b : Int32) (w : Int32) (l : Int32) (S : v_Sf) (R : v_Rf) : u_P L xs n d m_X12_gust 0 (lv_args 0 [.ref 100, .int g, .int a, .int b, .int w, .int l]) [] S R (z_Q R (fun v S1 => f_X12_gust g a b w l S = v ∧ g_X12_gust g a b w l S = S1)) := by
  show u_P L xs n d m_X12_gust 0 [(0, .ref 100), (1, .int g), (2, .int a), (3, .int b), (4, .int w), (5, .int l)] [] S R _
  refine u_st rfl (fun _ => rfl) ?_
  refine u_st rfl (fun _ => rfl) ?_
  refine u_st rfl (fun _ => rfl) ?_
  refine u_st rfl (fun _ => rfl) ?_
  show u_P L xs n d m_X12_gust 6 [(0, .ref 100), (1, .int g), (2, .int a), (3, .int b), (4, .int w), (5, .int l)] [.long (Int64.ofInt 11), .long (Int64.ofNat 0), .long g.toInt64] S R _
  refine u_cs (ac := [.long g.toInt64, .long (Int64.ofNat 0), .long (Int64.ofInt 11)]) (rest := []) rfl (by decide) mt_X12_lies (fun _ => rfl) (Nat.le_of_ble_eq_true rfl) (Nat.le_of_ble_eq_true rfl) (fun d' => z_liesC L xs n d' g (Int64.ofNat 0) (Int64.ofInt 11) (lo := 0) (hi := 11) rfl rfl S R) ?_
  rintro _ _ _ ⟨_, rfl, rfl, rfl, rfl⟩
  show u_P L xs n d m_X12_gust 9 [(0, .ref 100), (1, .int g), (2, .int a), (3, .int b), (4, .int w), (5, .int l)] [.int (z_in g 0 11)] S R _
  refine u_if_eq rfl (fun h1 => ?_) (fun h1 => ?_)
  · show u_P L xs n d m_X12_gust 57 [(0, .ref 100), (1, .int g), (2, .int a), (3, .int b), (4, .int w), (5, .int l)] [] S R _
    refine u_st rfl (fun _ => rfl) ?_
    show u_P L xs n d m_X12_gust 58 [(0, .ref 100), (1, .int g), (2, .int a), (3, .int b), (4, .int w), (5, .int l)] [.int (Int32.ofInt 0)] S R _
    exact u_retb rfl rfl ⟨_, rfl, rfl, by rw [f_X12_gust, if_pos h1], by rw [g_X12_gust, if_pos h1]⟩
  · show u_P L xs n d m_X12_gust 12 [(0, .ref 100), (1, .int g), (2, .int a), (3, .int b), (4, .int w), (5, .int l)] [] S R _
    refine u_st rfl (fun _ => rfl) ?_
    refine u_st rfl (fun _ => rfl) ?_
    refine u_st rfl (fun _ => rfl) ?_
    refine u_st rfl (fun _ => rfl) ?_
    show u_P L xs n d m_X12_gust 18 [(0, .ref 100), (1, .int g), (2, .int a), (3, .int b), (4, .int w), (5, .int l)] [.long (Int64.ofInt 99), .long (Int64.ofNat 0), .long a.toInt64] S R _
    refine u_cs (ac := [.long a.toInt64, .long (Int64.ofNat 0), .long (Int64.ofInt 99)]) (rest := []) rfl (by decide) mt_X12_lies (fun _ => rfl) (Nat.le_of_ble_eq_true rfl) (Nat.le_of_ble_eq_true rfl) (fun d' => z_liesC L xs n d' a (Int64.ofNat 0) (Int64.ofInt 99) (lo := 0) (hi := 99) rfl rfl S R) ?_
    rintro _ _ _ ⟨_, rfl, rfl, rfl, rfl⟩
    show u_P L xs n d m_X12_gust 21 [(0, .ref 100), (1, .int g), (2, .int a), (3, .int b), (4, .int w), (5, .int l)] [.int (z_in a 0 99)] S R _
    refine u_if_eq rfl (fun h2 => ?_) (fun h2 => ?_)
    · show u_P L xs n d m_X12_gust 57 [(0, .ref 100), (1, .int g), (2, .int a), (3, .int b), (4, .int w), (5, .int l)] [] S R _
      refine u_st rfl (fun _ => rfl) ?_
      show u_P L xs n d m_X12_gust 58 [(0, .ref 100), (1, .int g), (2, .int a), (3, .int b), (4, .int w), (5, .int l)] [.int (Int32.ofInt 0)] S R _
      exact u_retb rfl rfl ⟨_, rfl, rfl, by rw [f_X12_gust, if_neg h1, if_pos h2], by rw [g_X12_gust, if_neg h1, if_pos h2]⟩
    · show u_P L xs n d m_X12_gust 24 [(0, .ref 100), (1, .int g), (2, .int a), (3, .int b), (4, .int w), (5, .int l)] [] S R _
      refine u_st rfl (fun _ => rfl) ?_
      refine u_st rfl (fun _ => rfl) ?_
      refine u_st rfl (fun _ => rfl) ?_
      refine u_st rfl (fun _ => rfl) ?_
      show u_P L xs n d m_X12_gust 30 [(0, .ref 100), (1, .int g), (2, .int a), (3, .int b), (4, .int w), (5, .int l)] [.long (Int64.ofInt 9), .long (Int64.ofNat 0), .long b.toInt64] S R _
      refine u_cs (ac := [.long b.toInt64, .long (Int64.ofNat 0), .long (Int64.ofInt 9)]) (rest := []) rfl (by decide) mt_X12_lies (fun _ => rfl) (Nat.le_of_ble_eq_true rfl) (Nat.le_of_ble_eq_true rfl) (fun d' => z_liesC L xs n d' b (Int64.ofNat 0) (Int64.ofInt 9) (lo := 0) (hi := 9) rfl rfl S R) ?_
      rintro _ _ _ ⟨_, rfl, rfl, rfl, rfl⟩
      show u_P L xs n d m_X12_gust 33 [(0, .ref 100), (1, .int g), (2, .int a), (3, .int b), (4, .int w), (5, .int l)] [.int (z_in b 0 9)] S R _
      refine u_if_eq rfl (fun h3 => ?_) (fun h3 => ?_)
      · show u_P L xs n d m_X12_gust 57 [(0, .ref 100), (1, .int g), (2, .int a), (3, .int b), (4, .int w), (5, .int l)] [] S R _
        refine u_st rfl (fun _ => rfl) ?_
        show u_P L xs n d m_X12_gust 58 [(0, .ref 100), (1, .int g), (2, .int a), (3, .int b), (4, .int w), (5, .int l)] [.int (Int32.ofInt 0)] S R _
        exact u_retb rfl rfl ⟨_, rfl, rfl, by rw [f_X12_gust, if_neg h1, if_neg h2, if_pos h3], by rw [g_X12_gust, if_neg h1, if_neg h2, if_pos h3]⟩
      · show u_P L xs n d m_X12_gust 36 [(0, .ref 100), (1, .int g), (2, .int a), (3, .int b), (4, .int w), (5, .int l)] [] S R _
        refine u_st rfl (fun _ => rfl) ?_
        show u_P L xs n d m_X12_gust 38 [(0, .ref 100), (1, .int g), (2, .int a), (3, .int b), (4, .int w), (5, .int l)] [.int w] S R _
        refine u_cs (ac := [.int w]) (rest := []) rfl (by decide) mt_X12_isWard (fun _ => rfl) (Nat.le_of_ble_eq_true rfl) (Nat.le_of_ble_eq_true rfl) (fun d' => c_X12_isWard L xs n d' w S R) ?_
        rintro _ _ _ ⟨_, rfl, rfl, rfl, rfl⟩
        show u_P L xs n d m_X12_gust 41 [(0, .ref 100), (1, .int g), (2, .int a), (3, .int b), (4, .int w), (5, .int l)] [.int (f_X12_isWard w)] S R _
        refine u_if_eq rfl (fun h4 => ?_) (fun h4 => ?_)
        · show u_P L xs n d m_X12_gust 57 [(0, .ref 100), (1, .int g), (2, .int a), (3, .int b), (4, .int w), (5, .int l)] [] S R _
          refine u_st rfl (fun _ => rfl) ?_
          show u_P L xs n d m_X12_gust 58 [(0, .ref 100), (1, .int g), (2, .int a), (3, .int b), (4, .int w), (5, .int l)] [.int (Int32.ofInt 0)] S R _
          exact u_retb rfl rfl ⟨_, rfl, rfl, by rw [f_X12_gust, if_neg h1, if_neg h2, if_neg h3, if_pos h4], by rw [g_X12_gust, if_neg h1, if_neg h2, if_neg h3, if_pos h4]⟩
        · show u_P L xs n d m_X12_gust 44 [(0, .ref 100), (1, .int g), (2, .int a), (3, .int b), (4, .int w), (5, .int l)] [] S R _
          refine u_st rfl (fun _ => rfl) ?_
          refine u_st rfl (fun _ => rfl) ?_
          refine u_st rfl (fun _ => rfl) ?_
          refine u_st rfl (fun _ => rfl) ?_
          show u_P L xs n d m_X12_gust 51 [(0, .ref 100), (1, .int g), (2, .int a), (3, .int b), (4, .int w), (5, .int l)] [.long (Int64.ofInt 9), .long (Int64.ofNat 0), .long l.toInt64] S R _
          refine u_cs (ac := [.long l.toInt64, .long (Int64.ofNat 0), .long (Int64.ofInt 9)]) (rest := []) rfl (by decide) mt_X12_lies (fun _ => rfl) (Nat.le_of_ble_eq_true rfl) (Nat.le_of_ble_eq_true rfl) (fun d' => z_liesC L xs n d' l (Int64.ofNat 0) (Int64.ofInt 9) (lo := 0) (hi := 9) rfl rfl S R) ?_
          rintro _ _ _ ⟨_, rfl, rfl, rfl, rfl⟩
          show u_P L xs n d m_X12_gust 54 [(0, .ref 100), (1, .int g), (2, .int a), (3, .int b), (4, .int w), (5, .int l)] [.int (z_in l 0 9)] S R _
          refine u_if_ne rfl (fun h5 => ?_) (fun h5 => ?_)
          · show u_P L xs n d m_X12_gust 59 [(0, .ref 100), (1, .int g), (2, .int a), (3, .int b), (4, .int w), (5, .int l)] [] S R _
            refine u_st rfl (fun _ => rfl) ?_
            show u_P L xs n d m_X12_gust 60 [(0, .ref 100), (1, .int g), (2, .int a), (3, .int b), (4, .int w), (5, .int l)] [.ref 100] S R _
            refine u_getr rfl v_tyM rfl ?_
            refine u_st rfl (fun _ => rfl) ?_
            refine u_st rfl (fun _ => rfl) ?_
            show u_P L xs n d m_X12_gust 65 [(0, .ref 100), (1, .int g), (2, .int a), (3, .int b), (4, .int w), (5, .int l)] [.int (Int32.ofInt 1), .int g, .ref 117] S R _
            refine u_bast rfl rfl (by decide) (fun b61 b62 => ?_)
            refine u_st rfl (fun _ => rfl) ?_
            show u_P L xs n d m_X12_gust 67 [(0, .ref 100), (1, .int g), (2, .int a), (3, .int b), (4, .int w), (5, .int l)] [.ref 100] (z_s S 116 g.toInt.toNat (u_nar 2 (Int32.ofInt 1))) R _
            refine u_getr rfl v_tyM rfl ?_
            refine u_st rfl (fun _ => rfl) ?_
            refine u_st rfl (fun _ => rfl) ?_
            show u_P L xs n d m_X12_gust 72 [(0, .ref 100), (1, .int g), (2, .int a), (3, .int b), (4, .int w), (5, .int l)] [.int a, .int g, .ref 118] (z_s S 116 g.toInt.toNat (u_nar 2 (Int32.ofInt 1))) R _
            refine u_iast rfl rfl (fun b71 b72 => ?_)
            refine u_st rfl (fun _ => rfl) ?_
            show u_P L xs n d m_X12_gust 74 [(0, .ref 100), (1, .int g), (2, .int a), (3, .int b), (4, .int w), (5, .int l)] [.ref 100] (z_s (z_s S 116 g.toInt.toNat (u_nar 2 (Int32.ofInt 1))) 117 g.toInt.toNat a) R _
            refine u_getr rfl v_tyM rfl ?_
            refine u_st rfl (fun _ => rfl) ?_
            refine u_st rfl (fun _ => rfl) ?_
            show u_P L xs n d m_X12_gust 79 [(0, .ref 100), (1, .int g), (2, .int a), (3, .int b), (4, .int w), (5, .int l)] [.int (Int32.ofInt (-1)), .int g, .ref 119] (z_s (z_s S 116 g.toInt.toNat (u_nar 2 (Int32.ofInt 1))) 117 g.toInt.toNat a) R _
            refine u_iast rfl rfl (fun b81 b82 => ?_)
            refine u_st rfl (fun _ => rfl) ?_
            show u_P L xs n d m_X12_gust 81 [(0, .ref 100), (1, .int g), (2, .int a), (3, .int b), (4, .int w), (5, .int l)] [.ref 100] (z_s (z_s (z_s S 116 g.toInt.toNat (u_nar 2 (Int32.ofInt 1))) 117 g.toInt.toNat a) 118 g.toInt.toNat (Int32.ofInt (-1))) R _
            refine u_getr rfl v_tyM rfl ?_
            refine u_st rfl (fun _ => rfl) ?_
            refine u_st rfl (fun _ => rfl) ?_
            show u_P L xs n d m_X12_gust 86 [(0, .ref 100), (1, .int g), (2, .int a), (3, .int b), (4, .int w), (5, .int l)] [.int b, .int g, .ref 120] (z_s (z_s (z_s S 116 g.toInt.toNat (u_nar 2 (Int32.ofInt 1))) 117 g.toInt.toNat a) 118 g.toInt.toNat (Int32.ofInt (-1))) R _
            refine u_iast rfl rfl (fun b91 b92 => ?_)
            refine u_st rfl (fun _ => rfl) ?_
            show u_P L xs n d m_X12_gust 88 [(0, .ref 100), (1, .int g), (2, .int a), (3, .int b), (4, .int w), (5, .int l)] [.ref 100] (z_s (z_s (z_s (z_s S 116 g.toInt.toNat (u_nar 2 (Int32.ofInt 1))) 117 g.toInt.toNat a) 118 g.toInt.toNat (Int32.ofInt (-1))) 119 g.toInt.toNat b) R _
            refine u_getr rfl v_tyM rfl ?_
            refine u_st rfl (fun _ => rfl) ?_
            refine u_st rfl (fun _ => rfl) ?_
            show u_P L xs n d m_X12_gust 94 [(0, .ref 100), (1, .int g), (2, .int a), (3, .int b), (4, .int w), (5, .int l)] [.int w, .int g, .ref 121] (z_s (z_s (z_s (z_s S 116 g.toInt.toNat (u_nar 2 (Int32.ofInt 1))) 117 g.toInt.toNat a) 118 g.toInt.toNat (Int32.ofInt (-1))) 119 g.toInt.toNat b) R _
            refine u_iast rfl rfl (fun b101 b102 => ?_)
            refine u_st rfl (fun _ => rfl) ?_
            show u_P L xs n d m_X12_gust 96 [(0, .ref 100), (1, .int g), (2, .int a), (3, .int b), (4, .int w), (5, .int l)] [.ref 100] (z_s (z_s (z_s (z_s (z_s S 116 g.toInt.toNat (u_nar 2 (Int32.ofInt 1))) 117 g.toInt.toNat a) 118 g.toInt.toNat (Int32.ofInt (-1))) 119 g.toInt.toNat b) 120 g.toInt.toNat w) R _
            refine u_getr rfl v_tyM rfl ?_
            refine u_st rfl (fun _ => rfl) ?_
            refine u_st rfl (fun _ => rfl) ?_
            show u_P L xs n d m_X12_gust 102 [(0, .ref 100), (1, .int g), (2, .int a), (3, .int b), (4, .int w), (5, .int l)] [.int l, .int g, .ref 122] (z_s (z_s (z_s (z_s (z_s S 116 g.toInt.toNat (u_nar 2 (Int32.ofInt 1))) 117 g.toInt.toNat a) 118 g.toInt.toNat (Int32.ofInt (-1))) 119 g.toInt.toNat b) 120 g.toInt.toNat w) R _
            refine u_iast rfl rfl (fun b111 b112 => ?_)
            refine u_st rfl (fun _ => rfl) ?_
            show u_P L xs n d m_X12_gust 104 [(0, .ref 100), (1, .int g), (2, .int a), (3, .int b), (4, .int w), (5, .int l)] [.ref 100] (z_s (z_s (z_s (z_s (z_s (z_s S 116 g.toInt.toNat (u_nar 2 (Int32.ofInt 1))) 117 g.toInt.toNat a) 118 g.toInt.toNat (Int32.ofInt (-1))) 119 g.toInt.toNat b) 120 g.toInt.toNat w) 121 g.toInt.toNat l) R _
            refine u_getr rfl v_tyM rfl ?_
            refine u_st rfl (fun _ => rfl) ?_
            refine u_st rfl (fun _ => rfl) ?_
            show u_P L xs n d m_X12_gust 109 [(0, .ref 100), (1, .int g), (2, .int a), (3, .int b), (4, .int w), (5, .int l)] [.int (Int32.ofInt 0), .int g, .ref 123] (z_s (z_s (z_s (z_s (z_s (z_s S 116 g.toInt.toNat (u_nar 2 (Int32.ofInt 1))) 117 g.toInt.toNat a) 118 g.toInt.toNat (Int32.ofInt (-1))) 119 g.toInt.toNat b) 120 g.toInt.toNat w) 121 g.toInt.toNat l) R _
            refine u_iast rfl rfl (fun b121 b122 => ?_)
            refine u_st rfl (fun _ => rfl) ?_
            show u_P L xs n d m_X12_gust 111 [(0, .ref 100), (1, .int g), (2, .int a), (3, .int b), (4, .int w), (5, .int l)] [.int (Int32.ofInt 1)] (z_s (z_s (z_s (z_s (z_s (z_s (z_s S 116 g.toInt.toNat (u_nar 2 (Int32.ofInt 1))) 117 g.toInt.toNat a) 118 g.toInt.toNat (Int32.ofInt (-1))) 119 g.toInt.toNat b) 120 g.toInt.toNat w) 121 g.toInt.toNat l) 122 g.toInt.toNat (Int32.ofInt 0)) R _
            exact u_retb rfl rfl ⟨_, rfl, rfl, by rw [f_X12_gust, if_neg h1, if_neg h2, if_neg h3, if_neg h4, if_pos h5], by rw [g_X12_gust, if_neg h1, if_neg h2, if_neg h3, if_neg h4, if_pos h5]⟩
          · show u_P L xs n d m_X12_gust 57 [(0, .ref 100), (1, .int g), (2, .int a), (3, .int b), (4, .int w), (5, .int l)] [] S R _
            refine u_st rfl (fun _ => rfl) ?_
            show u_P L xs n d m_X12_gust 58 [(0, .ref 100), (1, .int g), (2, .int a), (3, .int b), (4, .int w), (5, .int l)] [.int (Int32.ofInt 0)] S R _
            exact u_retb rfl rfl ⟨_, rfl, rfl, by rw [f_X12_gust, if_neg h1, if_neg h2, if_neg h3, if_neg h4, if_neg h5], by rw [g_X12_gust, if_neg h1, if_neg h2, if_neg h3, if_neg h4, if_neg h5]⟩
noncomputable abbrev m_X12_name : g_M := (g_cn 12, yX12_name, cX12_name, 3, (some .boolean), g_look2 ttX12_name)
set_option maxRecDepth 20000 in
theorem mt_X12_name : g_mt 216 = some m_X12_name := rfl
noncomputable def f_X12_name (g : Int32) (q : Int32) (S : v_Sf) : Int32 := (if (f_X12_isTold g S) = 0 then Int32.ofInt 0 else (if ¬ (z_in q 0 7) = 0 then Int32.ofInt 1 else Int32.ofInt 0))
noncomputable def g_X12_name (g : Int32) (q : Int32) (S : v_Sf) : v_Sf := (if (f_X12_isTold g S) = 0 then S else (if ¬ (z_in q 0 7) = 0 then z_s S 118 g.toInt.toNat q else S))
set_option maxRecDepth 4000 in
theorem c_X12_name (L : Nat) (xs : Nat → Int32) (n d : Nat) (g : Int32) (q : Int32) (S : v_Sf) (R : v_Rf) : u_P L xs n d m_X12_name 0 (lv_args 0 [.ref 100, .int g, .int q]) [] S R (z_Q R (fun v S1 => f_X12_name g q S = v ∧ g_X12_name g q S = S1)) := by
  show u_P L xs n d m_X12_name 0 [(0, .ref 100), (1, .int g), (2, .int q)] [] S R _
  refine u_st rfl (fun _ => rfl) ?_
  refine u_st rfl (fun _ => rfl) ?_
  show u_P L xs n d m_X12_name 2 [(0, .ref 100), (1, .int g), (2, .int q)] [.int g, .ref 100] S R _
  refine u_cv (rest := []) rfl (by decide) mt_X12_isTold v_tyM rfl rfl rfl (Nat.le_of_ble_eq_true rfl) (Nat.le_of_ble_eq_true rfl) (Nat.le_of_ble_eq_true rfl) (fun d' => c_X12_isTold L xs n d' g S R) ?_
  rintro _ _ _ ⟨_, rfl, rfl, rfl, rfl⟩
  show u_P L xs n d m_X12_name 5 [(0, .ref 100), (1, .int g), (2, .int q)] [.int (f_X12_isTold g S)] S R _
  refine u_if_eq rfl (fun h1 => ?_) (fun h1 => ?_)
  · show u_P L xs n d m_X12_name 20 [(0, .ref 100), (1, .int g), (2, .int q)] [] S R _
    refine u_st rfl (fun _ => rfl) ?_
    show u_P L xs n d m_X12_name 21 [(0, .ref 100), (1, .int g), (2, .int q)] [.int (Int32.ofInt 0)] S R _
    exact u_retb rfl rfl ⟨_, rfl, rfl, by rw [f_X12_name, if_pos h1], by rw [g_X12_name, if_pos h1]⟩
  · show u_P L xs n d m_X12_name 8 [(0, .ref 100), (1, .int g), (2, .int q)] [] S R _
    refine u_st rfl (fun _ => rfl) ?_
    refine u_st rfl (fun _ => rfl) ?_
    refine u_st rfl (fun _ => rfl) ?_
    refine u_st rfl (fun _ => rfl) ?_
    show u_P L xs n d m_X12_name 14 [(0, .ref 100), (1, .int g), (2, .int q)] [.long (Int64.ofInt 7), .long (Int64.ofNat 0), .long q.toInt64] S R _
    refine u_cs (ac := [.long q.toInt64, .long (Int64.ofNat 0), .long (Int64.ofInt 7)]) (rest := []) rfl (by decide) mt_X12_lies (fun _ => rfl) (Nat.le_of_ble_eq_true rfl) (Nat.le_of_ble_eq_true rfl) (fun d' => z_liesC L xs n d' q (Int64.ofNat 0) (Int64.ofInt 7) (lo := 0) (hi := 7) rfl rfl S R) ?_
    rintro _ _ _ ⟨_, rfl, rfl, rfl, rfl⟩
    show u_P L xs n d m_X12_name 17 [(0, .ref 100), (1, .int g), (2, .int q)] [.int (z_in q 0 7)] S R _
    refine u_if_ne rfl (fun h2 => ?_) (fun h2 => ?_)
    · show u_P L xs n d m_X12_name 22 [(0, .ref 100), (1, .int g), (2, .int q)] [] S R _
      refine u_st rfl (fun _ => rfl) ?_
      show u_P L xs n d m_X12_name 23 [(0, .ref 100), (1, .int g), (2, .int q)] [.ref 100] S R _
      refine u_getr rfl v_tyM rfl ?_
      refine u_st rfl (fun _ => rfl) ?_
      refine u_st rfl (fun _ => rfl) ?_
      show u_P L xs n d m_X12_name 28 [(0, .ref 100), (1, .int g), (2, .int q)] [.int q, .int g, .ref 119] S R _
      refine u_iast rfl rfl (fun b31 b32 => ?_)
      refine u_st rfl (fun _ => rfl) ?_
      show u_P L xs n d m_X12_name 30 [(0, .ref 100), (1, .int g), (2, .int q)] [.int (Int32.ofInt 1)] (z_s S 118 g.toInt.toNat q) R _
      exact u_retb rfl rfl ⟨_, rfl, rfl, by rw [f_X12_name, if_neg h1, if_pos h2], by rw [g_X12_name, if_neg h1, if_pos h2]⟩
    · show u_P L xs n d m_X12_name 20 [(0, .ref 100), (1, .int g), (2, .int q)] [] S R _
      refine u_st rfl (fun _ => rfl) ?_
      show u_P L xs n d m_X12_name 21 [(0, .ref 100), (1, .int g), (2, .int q)] [.int (Int32.ofInt 0)] S R _
      exact u_retb rfl rfl ⟨_, rfl, rfl, by rw [f_X12_name, if_neg h1, if_neg h2], by rw [g_X12_name, if_neg h1, if_neg h2]⟩
noncomputable abbrev m_X12_habit : g_M := (g_cn 12, yX12_habit, cX12_habit, 4, (some .boolean), g_look2 ttX12_habit)
set_option maxRecDepth 20000 in
theorem mt_X12_habit : g_mt 218 = some m_X12_habit := rfl
noncomputable def f_X12_habit (g : Int32) (h : Int32) (a : Int32) (S : v_Sf) : Int32 := (if (f_X12_isTold g S) = 0 then Int32.ofInt 0 else (if ¬ (z_in h 0 9) = 0 then (if a = 0 then Int32.ofInt 1 else Int32.ofInt 1) else Int32.ofInt 0))
noncomputable def g_X12_habit (g : Int32) (h : Int32) (a : Int32) (S : v_Sf) : v_Sf := (if (f_X12_isTold g S) = 0 then S else (if ¬ (z_in h 0 9) = 0 then (if a = 0 then z_s S 122 g.toInt.toNat ((S 122 g.toInt.toNat) &&& (((Int32.ofInt 1) <<< (h &&& 31)) ^^^ (Int32.ofInt (-1)))) else z_s S 122 g.toInt.toNat ((S 122 g.toInt.toNat) ||| ((Int32.ofInt 1) <<< (h &&& 31)))) else S))
set_option maxRecDepth 4000 in
theorem c_X12_habit (L : Nat) (xs : Nat → Int32) (n d : Nat) (g : Int32) (h : Int32) (a : Int32) (S : v_Sf) (R : v_Rf) : u_P L xs n d m_X12_habit 0 (lv_args 0 [.ref 100, .int g, .int h, .int a]) [] S R (z_Q R (fun v S1 => f_X12_habit g h a S = v ∧ g_X12_habit g h a S = S1)) := by
  show u_P L xs n d m_X12_habit 0 [(0, .ref 100), (1, .int g), (2, .int h), (3, .int a)] [] S R _
  refine u_st rfl (fun _ => rfl) ?_
  refine u_st rfl (fun _ => rfl) ?_
  show u_P L xs n d m_X12_habit 2 [(0, .ref 100), (1, .int g), (2, .int h), (3, .int a)] [.int g, .ref 100] S R _
  refine u_cv (rest := []) rfl (by decide) mt_X12_isTold v_tyM rfl rfl rfl (Nat.le_of_ble_eq_true rfl) (Nat.le_of_ble_eq_true rfl) (Nat.le_of_ble_eq_true rfl) (fun d' => c_X12_isTold L xs n d' g S R) ?_
  rintro _ _ _ ⟨_, rfl, rfl, rfl, rfl⟩
  show u_P L xs n d m_X12_habit 5 [(0, .ref 100), (1, .int g), (2, .int h), (3, .int a)] [.int (f_X12_isTold g S)] S R _
  refine u_if_eq rfl (fun h1 => ?_) (fun h1 => ?_)
  · show u_P L xs n d m_X12_habit 20 [(0, .ref 100), (1, .int g), (2, .int h), (3, .int a)] [] S R _
    refine u_st rfl (fun _ => rfl) ?_
    show u_P L xs n d m_X12_habit 21 [(0, .ref 100), (1, .int g), (2, .int h), (3, .int a)] [.int (Int32.ofInt 0)] S R _
    exact u_retb rfl rfl ⟨_, rfl, rfl, by rw [f_X12_habit, if_pos h1], by rw [g_X12_habit, if_pos h1]⟩
  · show u_P L xs n d m_X12_habit 8 [(0, .ref 100), (1, .int g), (2, .int h), (3, .int a)] [] S R _
    refine u_st rfl (fun _ => rfl) ?_
    refine u_st rfl (fun _ => rfl) ?_
    refine u_st rfl (fun _ => rfl) ?_
    refine u_st rfl (fun _ => rfl) ?_
    show u_P L xs n d m_X12_habit 14 [(0, .ref 100), (1, .int g), (2, .int h), (3, .int a)] [.long (Int64.ofInt 9), .long (Int64.ofNat 0), .long h.toInt64] S R _
    refine u_cs (ac := [.long h.toInt64, .long (Int64.ofNat 0), .long (Int64.ofInt 9)]) (rest := []) rfl (by decide) mt_X12_lies (fun _ => rfl) (Nat.le_of_ble_eq_true rfl) (Nat.le_of_ble_eq_true rfl) (fun d' => z_liesC L xs n d' h (Int64.ofNat 0) (Int64.ofInt 9) (lo := 0) (hi := 9) rfl rfl S R) ?_
    rintro _ _ _ ⟨_, rfl, rfl, rfl, rfl⟩
    show u_P L xs n d m_X12_habit 17 [(0, .ref 100), (1, .int g), (2, .int h), (3, .int a)] [.int (z_in h 0 9)] S R _
    refine u_if_ne rfl (fun h2 => ?_) (fun h2 => ?_)
    · show u_P L xs n d m_X12_habit 22 [(0, .ref 100), (1, .int g), (2, .int h), (3, .int a)] [] S R _
      refine u_st rfl (fun _ => rfl) ?_
      show u_P L xs n d m_X12_habit 23 [(0, .ref 100), (1, .int g), (2, .int h), (3, .int a)] [.ref 100] S R _
      refine u_getr rfl v_tyM rfl ?_
      refine u_st rfl (fun _ => rfl) ?_
      refine u_st rfl (fun _ => rfl) ?_
      show u_P L xs n d m_X12_habit 28 [(0, .ref 100), (1, .int g), (2, .int h), (3, .int a)] [.int a, .int g, .ref 123] S R _
      refine u_if_eq rfl (fun h3 => ?_) (fun h3 => ?_)
      · show u_P L xs n d m_X12_habit 44 [(0, .ref 100), (1, .int g), (2, .int h), (3, .int a)] [.int g, .ref 123] S R _
        refine u_st rfl (fun _ => rfl) ?_
        show u_P L xs n d m_X12_habit 45 [(0, .ref 100), (1, .int g), (2, .int h), (3, .int a)] [.ref 100, .int g, .ref 123] S R _
        refine u_getr rfl v_tyM rfl ?_
        refine u_st rfl (fun _ => rfl) ?_
        show u_P L xs n d m_X12_habit 49 [(0, .ref 100), (1, .int g), (2, .int h), (3, .int a)] [.int g, .ref 123, .int g, .ref 123] S R _
        refine u_ialdE (v := S 122 g.toInt.toNat) rfl rfl rfl (fun b41 b42 => ?_)
        refine u_st rfl (fun _ => rfl) ?_
        refine u_st rfl (fun _ => rfl) ?_
        refine u_st rfl (fun _ => rfl) ?_
        refine u_st rfl (fun _ => rfl) ?_
        refine u_st rfl (fun _ => rfl) ?_
        refine u_st rfl (fun _ => rfl) ?_
        show u_P L xs n d m_X12_habit 56 [(0, .ref 100), (1, .int g), (2, .int h), (3, .int a)] [.int ((S 122 g.toInt.toNat) &&& (((Int32.ofInt 1) <<< (h &&& 31)) ^^^ (Int32.ofInt (-1)))), .int g, .ref 123] S R _
        refine u_iast rfl rfl (fun b51 b52 => ?_)
        refine u_st rfl (fun _ => rfl) ?_
        show u_P L xs n d m_X12_habit 58 [(0, .ref 100), (1, .int g), (2, .int h), (3, .int a)] [.int (Int32.ofInt 1)] (z_s S 122 g.toInt.toNat ((S 122 g.toInt.toNat) &&& (((Int32.ofInt 1) <<< (h &&& 31)) ^^^ (Int32.ofInt (-1))))) R _
        exact u_retb rfl rfl ⟨_, rfl, rfl, by rw [f_X12_habit, if_neg h1, if_pos h2, if_pos h3], by rw [g_X12_habit, if_neg h1, if_pos h2, if_pos h3]⟩
      · show u_P L xs n d m_X12_habit 31 [(0, .ref 100), (1, .int g), (2, .int h), (3, .int a)] [.int g, .ref 123] S R _
        refine u_st rfl (fun _ => rfl) ?_
        show u_P L xs n d m_X12_habit 32 [(0, .ref 100), (1, .int g), (2, .int h), (3, .int a)] [.ref 100, .int g, .ref 123] S R _
        refine u_getr rfl v_tyM rfl ?_
        refine u_st rfl (fun _ => rfl) ?_
        show u_P L xs n d m_X12_habit 36 [(0, .ref 100), (1, .int g), (2, .int h), (3, .int a)] [.int g, .ref 123, .int g, .ref 123] S R _
        refine u_ialdE (v := S 122 g.toInt.toNat) rfl rfl rfl (fun b61 b62 => ?_)
        refine u_st rfl (fun _ => rfl) ?_
        refine u_st rfl (fun _ => rfl) ?_
        refine u_st rfl (fun _ => rfl) ?_
        refine u_st rfl (fun _ => rfl) ?_
        refine u_st rfl (fun _ => rfl) ?_
        show u_P L xs n d m_X12_habit 56 [(0, .ref 100), (1, .int g), (2, .int h), (3, .int a)] [.int ((S 122 g.toInt.toNat) ||| ((Int32.ofInt 1) <<< (h &&& 31))), .int g, .ref 123] S R _
        refine u_iast rfl rfl (fun b71 b72 => ?_)
        refine u_st rfl (fun _ => rfl) ?_
        show u_P L xs n d m_X12_habit 58 [(0, .ref 100), (1, .int g), (2, .int h), (3, .int a)] [.int (Int32.ofInt 1)] (z_s S 122 g.toInt.toNat ((S 122 g.toInt.toNat) ||| ((Int32.ofInt 1) <<< (h &&& 31)))) R _
        exact u_retb rfl rfl ⟨_, rfl, rfl, by rw [f_X12_habit, if_neg h1, if_pos h2, if_neg h3], by rw [g_X12_habit, if_neg h1, if_pos h2, if_neg h3]⟩
    · show u_P L xs n d m_X12_habit 20 [(0, .ref 100), (1, .int g), (2, .int h), (3, .int a)] [] S R _
      refine u_st rfl (fun _ => rfl) ?_
      show u_P L xs n d m_X12_habit 21 [(0, .ref 100), (1, .int g), (2, .int h), (3, .int a)] [.int (Int32.ofInt 0)] S R _
      exact u_retb rfl rfl ⟨_, rfl, rfl, by rw [f_X12_habit, if_neg h1, if_neg h2], by rw [g_X12_habit, if_neg h1, if_neg h2]⟩
noncomputable abbrev m_X12_ward : g_M := (g_cn 12, yX12_ward, cX12_ward, 5, (some .boolean), g_look2 ttX12_ward)
set_option maxRecDepth 20000 in
theorem mt_X12_ward : g_mt 219 = some m_X12_ward := rfl
noncomputable def f_X12_ward (w : Int32) (a : Int32) (b : Int32) (k : Int32) (S : v_Sf) : Int32 := (if (f_X12_isWard w) = 0 then Int32.ofInt 0 else (if (z_in a 0 9) = 0 then Int32.ofInt 0 else (if (z_in b 0 9) = 0 then Int32.ofInt 0 else (if ¬ (z_in k (-1) 4) = 0 then Int32.ofInt 1 else Int32.ofInt 0))))
noncomputable def g_X12_ward (w : Int32) (a : Int32) (b : Int32) (k : Int32) (S : v_Sf) : v_Sf := (if (f_X12_isWard w) = 0 then S else (if (z_in a 0 9) = 0 then S else (if (z_in b 0 9) = 0 then S else (if ¬ (z_in k (-1) 4) = 0 then z_s (z_s (z_s S 123 w.toInt.toNat a) 124 w.toInt.toNat b) 125 w.toInt.toNat k else S))))
set_option maxRecDepth 4000 in
theorem c_X12_ward (L : Nat) (xs : Nat → Int32) (n d : Nat) (w : Int32) (a : Int32) (b : Int32) (k : Int32) (S : v_Sf) (R : v_Rf) : u_P L xs n d m_X12_ward 0 (lv_args 0 [.ref 100, .int w, .int a, .int b, .int k]) [] S R (z_Q R (fun v S1 => f_X12_ward w a b k S = v ∧ g_X12_ward w a b k S = S1)) := by
  show u_P L xs n d m_X12_ward 0 [(0, .ref 100), (1, .int w), (2, .int a), (3, .int b), (4, .int k)] [] S R _
  refine u_st rfl (fun _ => rfl) ?_
  show u_P L xs n d m_X12_ward 1 [(0, .ref 100), (1, .int w), (2, .int a), (3, .int b), (4, .int k)] [.int w] S R _
  refine u_cs (ac := [.int w]) (rest := []) rfl (by decide) mt_X12_isWard (fun _ => rfl) (Nat.le_of_ble_eq_true rfl) (Nat.le_of_ble_eq_true rfl) (fun d' => c_X12_isWard L xs n d' w S R) ?_
  rintro _ _ _ ⟨_, rfl, rfl, rfl, rfl⟩
  show u_P L xs n d m_X12_ward 4 [(0, .ref 100), (1, .int w), (2, .int a), (3, .int b), (4, .int k)] [.int (f_X12_isWard w)] S R _
  refine u_if_eq rfl (fun h1 => ?_) (fun h1 => ?_)
  · show u_P L xs n d m_X12_ward 46 [(0, .ref 100), (1, .int w), (2, .int a), (3, .int b), (4, .int k)] [] S R _
    refine u_st rfl (fun _ => rfl) ?_
    show u_P L xs n d m_X12_ward 47 [(0, .ref 100), (1, .int w), (2, .int a), (3, .int b), (4, .int k)] [.int (Int32.ofInt 0)] S R _
    exact u_retb rfl rfl ⟨_, rfl, rfl, by rw [f_X12_ward, if_pos h1], by rw [g_X12_ward, if_pos h1]⟩
  · show u_P L xs n d m_X12_ward 7 [(0, .ref 100), (1, .int w), (2, .int a), (3, .int b), (4, .int k)] [] S R _
    refine u_st rfl (fun _ => rfl) ?_
    refine u_st rfl (fun _ => rfl) ?_
    refine u_st rfl (fun _ => rfl) ?_
    refine u_st rfl (fun _ => rfl) ?_
    show u_P L xs n d m_X12_ward 13 [(0, .ref 100), (1, .int w), (2, .int a), (3, .int b), (4, .int k)] [.long (Int64.ofInt 9), .long (Int64.ofNat 0), .long a.toInt64] S R _
    refine u_cs (ac := [.long a.toInt64, .long (Int64.ofNat 0), .long (Int64.ofInt 9)]) (rest := []) rfl (by decide) mt_X12_lies (fun _ => rfl) (Nat.le_of_ble_eq_true rfl) (Nat.le_of_ble_eq_true rfl) (fun d' => z_liesC L xs n d' a (Int64.ofNat 0) (Int64.ofInt 9) (lo := 0) (hi := 9) rfl rfl S R) ?_
    rintro _ _ _ ⟨_, rfl, rfl, rfl, rfl⟩
    show u_P L xs n d m_X12_ward 16 [(0, .ref 100), (1, .int w), (2, .int a), (3, .int b), (4, .int k)] [.int (z_in a 0 9)] S R _
    refine u_if_eq rfl (fun h2 => ?_) (fun h2 => ?_)
    · show u_P L xs n d m_X12_ward 46 [(0, .ref 100), (1, .int w), (2, .int a), (3, .int b), (4, .int k)] [] S R _
      refine u_st rfl (fun _ => rfl) ?_
      show u_P L xs n d m_X12_ward 47 [(0, .ref 100), (1, .int w), (2, .int a), (3, .int b), (4, .int k)] [.int (Int32.ofInt 0)] S R _
      exact u_retb rfl rfl ⟨_, rfl, rfl, by rw [f_X12_ward, if_neg h1, if_pos h2], by rw [g_X12_ward, if_neg h1, if_pos h2]⟩
    · show u_P L xs n d m_X12_ward 19 [(0, .ref 100), (1, .int w), (2, .int a), (3, .int b), (4, .int k)] [] S R _
      refine u_st rfl (fun _ => rfl) ?_
      refine u_st rfl (fun _ => rfl) ?_
      refine u_st rfl (fun _ => rfl) ?_
      refine u_st rfl (fun _ => rfl) ?_
      show u_P L xs n d m_X12_ward 25 [(0, .ref 100), (1, .int w), (2, .int a), (3, .int b), (4, .int k)] [.long (Int64.ofInt 9), .long (Int64.ofNat 0), .long b.toInt64] S R _
      refine u_cs (ac := [.long b.toInt64, .long (Int64.ofNat 0), .long (Int64.ofInt 9)]) (rest := []) rfl (by decide) mt_X12_lies (fun _ => rfl) (Nat.le_of_ble_eq_true rfl) (Nat.le_of_ble_eq_true rfl) (fun d' => z_liesC L xs n d' b (Int64.ofNat 0) (Int64.ofInt 9) (lo := 0) (hi := 9) rfl rfl S R) ?_
      rintro _ _ _ ⟨_, rfl, rfl, rfl, rfl⟩
      show u_P L xs n d m_X12_ward 28 [(0, .ref 100), (1, .int w), (2, .int a), (3, .int b), (4, .int k)] [.int (z_in b 0 9)] S R _
      refine u_if_eq rfl (fun h3 => ?_) (fun h3 => ?_)
      · show u_P L xs n d m_X12_ward 46 [(0, .ref 100), (1, .int w), (2, .int a), (3, .int b), (4, .int k)] [] S R _
        refine u_st rfl (fun _ => rfl) ?_
        show u_P L xs n d m_X12_ward 47 [(0, .ref 100), (1, .int w), (2, .int a), (3, .int b), (4, .int k)] [.int (Int32.ofInt 0)] S R _
        exact u_retb rfl rfl ⟨_, rfl, rfl, by rw [f_X12_ward, if_neg h1, if_neg h2, if_pos h3], by rw [g_X12_ward, if_neg h1, if_neg h2, if_pos h3]⟩
      · show u_P L xs n d m_X12_ward 31 [(0, .ref 100), (1, .int w), (2, .int a), (3, .int b), (4, .int k)] [] S R _
        refine u_st rfl (fun _ => rfl) ?_
        refine u_st rfl (fun _ => rfl) ?_
        refine u_st rfl (fun _ => rfl) ?_
        refine u_st rfl (fun _ => rfl) ?_
        show u_P L xs n d m_X12_ward 40 [(0, .ref 100), (1, .int w), (2, .int a), (3, .int b), (4, .int k)] [.long (Int64.ofInt 4), .long (Int64.ofInt (-1)), .long k.toInt64] S R _
        refine u_cs (ac := [.long k.toInt64, .long (Int64.ofInt (-1)), .long (Int64.ofInt 4)]) (rest := []) rfl (by decide) mt_X12_lies (fun _ => rfl) (Nat.le_of_ble_eq_true rfl) (Nat.le_of_ble_eq_true rfl) (fun d' => z_liesC L xs n d' k (Int64.ofInt (-1)) (Int64.ofInt 4) (lo := (-1)) (hi := 4) rfl rfl S R) ?_
        rintro _ _ _ ⟨_, rfl, rfl, rfl, rfl⟩
        show u_P L xs n d m_X12_ward 43 [(0, .ref 100), (1, .int w), (2, .int a), (3, .int b), (4, .int k)] [.int (z_in k (-1) 4)] S R _
        refine u_if_ne rfl (fun h4 => ?_) (fun h4 => ?_)
        · show u_P L xs n d m_X12_ward 48 [(0, .ref 100), (1, .int w), (2, .int a), (3, .int b), (4, .int k)] [] S R _
          refine u_st rfl (fun _ => rfl) ?_
          show u_P L xs n d m_X12_ward 49 [(0, .ref 100), (1, .int w), (2, .int a), (3, .int b), (4, .int k)] [.ref 100] S R _
          refine u_getr rfl v_tyM rfl ?_
          refine u_st rfl (fun _ => rfl) ?_
          refine u_st rfl (fun _ => rfl) ?_
          show u_P L xs n d m_X12_ward 54 [(0, .ref 100), (1, .int w), (2, .int a), (3, .int b), (4, .int k)] [.int a, .int w, .ref 124] S R _
          refine u_iast rfl rfl (fun b51 b52 => ?_)
          refine u_st rfl (fun _ => rfl) ?_
          show u_P L xs n d m_X12_ward 56 [(0, .ref 100), (1, .int w), (2, .int a), (3, .int b), (4, .int k)] [.ref 100] (z_s S 123 w.toInt.toNat a) R _
          refine u_getr rfl v_tyM rfl ?_
          refine u_st rfl (fun _ => rfl) ?_
          refine u_st rfl (fun _ => rfl) ?_
          show u_P L xs n d m_X12_ward 61 [(0, .ref 100), (1, .int w), (2, .int a), (3, .int b), (4, .int k)] [.int b, .int w, .ref 125] (z_s S 123 w.toInt.toNat a) R _
          refine u_iast rfl rfl (fun b61 b62 => ?_)
          refine u_st rfl (fun _ => rfl) ?_
          show u_P L xs n d m_X12_ward 63 [(0, .ref 100), (1, .int w), (2, .int a), (3, .int b), (4, .int k)] [.ref 100] (z_s (z_s S 123 w.toInt.toNat a) 124 w.toInt.toNat b) R _
          refine u_getr rfl v_tyM rfl ?_
          refine u_st rfl (fun _ => rfl) ?_
          refine u_st rfl (fun _ => rfl) ?_
          show u_P L xs n d m_X12_ward 69 [(0, .ref 100), (1, .int w), (2, .int a), (3, .int b), (4, .int k)] [.int k, .int w, .ref 126] (z_s (z_s S 123 w.toInt.toNat a) 124 w.toInt.toNat b) R _
          refine u_iast rfl rfl (fun b71 b72 => ?_)
          refine u_st rfl (fun _ => rfl) ?_
          show u_P L xs n d m_X12_ward 71 [(0, .ref 100), (1, .int w), (2, .int a), (3, .int b), (4, .int k)] [.int (Int32.ofInt 1)] (z_s (z_s (z_s S 123 w.toInt.toNat a) 124 w.toInt.toNat b) 125 w.toInt.toNat k) R _
          exact u_retb rfl rfl ⟨_, rfl, rfl, by rw [f_X12_ward, if_neg h1, if_neg h2, if_neg h3, if_pos h4], by rw [g_X12_ward, if_neg h1, if_neg h2, if_neg h3, if_pos h4]⟩
        · show u_P L xs n d m_X12_ward 46 [(0, .ref 100), (1, .int w), (2, .int a), (3, .int b), (4, .int k)] [] S R _
          refine u_st rfl (fun _ => rfl) ?_
          show u_P L xs n d m_X12_ward 47 [(0, .ref 100), (1, .int w), (2, .int a), (3, .int b), (4, .int k)] [.int (Int32.ofInt 0)] S R _
          exact u_retb rfl rfl ⟨_, rfl, rfl, by rw [f_X12_ward, if_neg h1, if_neg h2, if_neg h3, if_neg h4], by rw [g_X12_ward, if_neg h1, if_neg h2, if_neg h3, if_neg h4]⟩
noncomputable abbrev m_X12_nurse : g_M := (g_cn 12, yX12_nurse, cX12_nurse, 3, (some .boolean), g_look2 ttX12_nurse)
set_option maxRecDepth 20000 in
theorem mt_X12_nurse : g_mt 220 = some m_X12_nurse := rfl
noncomputable def f_X12_nurse (k : Int32) (a : Int32) (S : v_Sf) : Int32 := (if (z_in k 0 4) = 0 then Int32.ofInt 0 else (if ¬ (z_in a 0 9) = 0 then Int32.ofInt 1 else Int32.ofInt 0))
noncomputable def g_X12_nurse (k : Int32) (a : Int32) (S : v_Sf) : v_Sf := (if (z_in k 0 4) = 0 then S else (if ¬ (z_in a 0 9) = 0 then z_s (z_s (z_s S 129 k.toInt.toNat (u_nar 2 (Int32.ofInt 1))) 130 k.toInt.toNat a) 131 k.toInt.toNat (Int32.ofInt 0) else S))
set_option maxRecDepth 4000 in
theorem c_X12_nurse (L : Nat) (xs : Nat → Int32) (n d : Nat) (k : Int32) (a : Int32) (S : v_Sf) (R : v_Rf) : u_P L xs n d m_X12_nurse 0 (lv_args 0 [.ref 100, .int k, .int a]) [] S R (z_Q R (fun v S1 => f_X12_nurse k a S = v ∧ g_X12_nurse k a S = S1)) := by
  show u_P L xs n d m_X12_nurse 0 [(0, .ref 100), (1, .int k), (2, .int a)] [] S R _
  refine u_st rfl (fun _ => rfl) ?_
  refine u_st rfl (fun _ => rfl) ?_
  refine u_st rfl (fun _ => rfl) ?_
  refine u_st rfl (fun _ => rfl) ?_
  show u_P L xs n d m_X12_nurse 6 [(0, .ref 100), (1, .int k), (2, .int a)] [.long (Int64.ofInt 4), .long (Int64.ofNat 0), .long k.toInt64] S R _
  refine u_cs (ac := [.long k.toInt64, .long (Int64.ofNat 0), .long (Int64.ofInt 4)]) (rest := []) rfl (by decide) mt_X12_lies (fun _ => rfl) (Nat.le_of_ble_eq_true rfl) (Nat.le_of_ble_eq_true rfl) (fun d' => z_liesC L xs n d' k (Int64.ofNat 0) (Int64.ofInt 4) (lo := 0) (hi := 4) rfl rfl S R) ?_
  rintro _ _ _ ⟨_, rfl, rfl, rfl, rfl⟩
  show u_P L xs n d m_X12_nurse 9 [(0, .ref 100), (1, .int k), (2, .int a)] [.int (z_in k 0 4)] S R _
  refine u_if_eq rfl (fun h1 => ?_) (fun h1 => ?_)
  · show u_P L xs n d m_X12_nurse 24 [(0, .ref 100), (1, .int k), (2, .int a)] [] S R _
    refine u_st rfl (fun _ => rfl) ?_
    show u_P L xs n d m_X12_nurse 25 [(0, .ref 100), (1, .int k), (2, .int a)] [.int (Int32.ofInt 0)] S R _
    exact u_retb rfl rfl ⟨_, rfl, rfl, by rw [f_X12_nurse, if_pos h1], by rw [g_X12_nurse, if_pos h1]⟩
  · show u_P L xs n d m_X12_nurse 12 [(0, .ref 100), (1, .int k), (2, .int a)] [] S R _
    refine u_st rfl (fun _ => rfl) ?_
    refine u_st rfl (fun _ => rfl) ?_
    refine u_st rfl (fun _ => rfl) ?_
    refine u_st rfl (fun _ => rfl) ?_
    show u_P L xs n d m_X12_nurse 18 [(0, .ref 100), (1, .int k), (2, .int a)] [.long (Int64.ofInt 9), .long (Int64.ofNat 0), .long a.toInt64] S R _
    refine u_cs (ac := [.long a.toInt64, .long (Int64.ofNat 0), .long (Int64.ofInt 9)]) (rest := []) rfl (by decide) mt_X12_lies (fun _ => rfl) (Nat.le_of_ble_eq_true rfl) (Nat.le_of_ble_eq_true rfl) (fun d' => z_liesC L xs n d' a (Int64.ofNat 0) (Int64.ofInt 9) (lo := 0) (hi := 9) rfl rfl S R) ?_
    rintro _ _ _ ⟨_, rfl, rfl, rfl, rfl⟩
    show u_P L xs n d m_X12_nurse 21 [(0, .ref 100), (1, .int k), (2, .int a)] [.int (z_in a 0 9)] S R _
    refine u_if_ne rfl (fun h2 => ?_) (fun h2 => ?_)
    · show u_P L xs n d m_X12_nurse 26 [(0, .ref 100), (1, .int k), (2, .int a)] [] S R _
      refine u_st rfl (fun _ => rfl) ?_
      show u_P L xs n d m_X12_nurse 27 [(0, .ref 100), (1, .int k), (2, .int a)] [.ref 100] S R _
      refine u_getr rfl v_tyM rfl ?_
      refine u_st rfl (fun _ => rfl) ?_
      refine u_st rfl (fun _ => rfl) ?_
      show u_P L xs n d m_X12_nurse 32 [(0, .ref 100), (1, .int k), (2, .int a)] [.int (Int32.ofInt 1), .int k, .ref 130] S R _
      refine u_bast rfl rfl (by decide) (fun b31 b32 => ?_)
      refine u_st rfl (fun _ => rfl) ?_
      show u_P L xs n d m_X12_nurse 34 [(0, .ref 100), (1, .int k), (2, .int a)] [.ref 100] (z_s S 129 k.toInt.toNat (u_nar 2 (Int32.ofInt 1))) R _
      refine u_getr rfl v_tyM rfl ?_
      refine u_st rfl (fun _ => rfl) ?_
      refine u_st rfl (fun _ => rfl) ?_
      show u_P L xs n d m_X12_nurse 39 [(0, .ref 100), (1, .int k), (2, .int a)] [.int a, .int k, .ref 131] (z_s S 129 k.toInt.toNat (u_nar 2 (Int32.ofInt 1))) R _
      refine u_iast rfl rfl (fun b41 b42 => ?_)
      refine u_st rfl (fun _ => rfl) ?_
      show u_P L xs n d m_X12_nurse 41 [(0, .ref 100), (1, .int k), (2, .int a)] [.ref 100] (z_s (z_s S 129 k.toInt.toNat (u_nar 2 (Int32.ofInt 1))) 130 k.toInt.toNat a) R _
      refine u_getr rfl v_tyM rfl ?_
      refine u_st rfl (fun _ => rfl) ?_
      refine u_st rfl (fun _ => rfl) ?_
      show u_P L xs n d m_X12_nurse 46 [(0, .ref 100), (1, .int k), (2, .int a)] [.int (Int32.ofInt 0), .int k, .ref 132] (z_s (z_s S 129 k.toInt.toNat (u_nar 2 (Int32.ofInt 1))) 130 k.toInt.toNat a) R _
      refine u_iast rfl rfl (fun b51 b52 => ?_)
      refine u_st rfl (fun _ => rfl) ?_
      show u_P L xs n d m_X12_nurse 48 [(0, .ref 100), (1, .int k), (2, .int a)] [.int (Int32.ofInt 1)] (z_s (z_s (z_s S 129 k.toInt.toNat (u_nar 2 (Int32.ofInt 1))) 130 k.toInt.toNat a) 131 k.toInt.toNat (Int32.ofInt 0)) R _
      exact u_retb rfl rfl ⟨_, rfl, rfl, by rw [f_X12_nurse, if_neg h1, if_pos h2], by rw [g_X12_nurse, if_neg h1, if_pos h2]⟩
    · show u_P L xs n d m_X12_nurse 24 [(0, .ref 100), (1, .int k), (2, .int a)] [] S R _
      refine u_st rfl (fun _ => rfl) ?_
      show u_P L xs n d m_X12_nurse 25 [(0, .ref 100), (1, .int k), (2, .int a)] [.int (Int32.ofInt 0)] S R _
      exact u_retb rfl rfl ⟨_, rfl, rfl, by rw [f_X12_nurse, if_neg h1, if_neg h2], by rw [g_X12_nurse, if_neg h1, if_neg h2]⟩
noncomputable abbrev m_X12_needs : g_M := (g_cn 12, yX12_needs, cX12_needs, 3, (some .boolean), g_look2 ttX12_needs)
set_option maxRecDepth 20000 in
theorem mt_X12_needs : g_mt 221 = some m_X12_needs := rfl
noncomputable def f_X12_needs (l : Int32) (h : Int32) (S : v_Sf) : Int32 := (if (z_in l 0 9) = 0 then Int32.ofInt 0 else (if (f_X12_areHabits h) = 0 then Int32.ofInt 0 else (if (f_X12_has h l) = 0 then Int32.ofInt 1 else Int32.ofInt 0)))
noncomputable def g_X12_needs (l : Int32) (h : Int32) (S : v_Sf) : v_Sf := (if (z_in l 0 9) = 0 then S else (if (f_X12_areHabits h) = 0 then S else (if (f_X12_has h l) = 0 then z_s S 132 l.toInt.toNat h else S)))
set_option maxRecDepth 4000 in
theorem c_X12_needs (L : Nat) (xs : Nat → Int32) (n d : Nat) (l : Int32) (h : Int32) (S : v_Sf) (R : v_Rf) : u_P L xs n d m_X12_needs 0 (lv_args 0 [.ref 100, .int l, .int h]) [] S R (z_Q R (fun v S1 => f_X12_needs l h S = v ∧ g_X12_needs l h S = S1)) := by
  show u_P L xs n d m_X12_needs 0 [(0, .ref 100), (1, .int l), (2, .int h)] [] S R _
  refine u_st rfl (fun _ => rfl) ?_
  refine u_st rfl (fun _ => rfl) ?_
  refine u_st rfl (fun _ => rfl) ?_
  refine u_st rfl (fun _ => rfl) ?_
  show u_P L xs n d m_X12_needs 6 [(0, .ref 100), (1, .int l), (2, .int h)] [.long (Int64.ofInt 9), .long (Int64.ofNat 0), .long l.toInt64] S R _
  refine u_cs (ac := [.long l.toInt64, .long (Int64.ofNat 0), .long (Int64.ofInt 9)]) (rest := []) rfl (by decide) mt_X12_lies (fun _ => rfl) (Nat.le_of_ble_eq_true rfl) (Nat.le_of_ble_eq_true rfl) (fun d' => z_liesC L xs n d' l (Int64.ofNat 0) (Int64.ofInt 9) (lo := 0) (hi := 9) rfl rfl S R) ?_
  rintro _ _ _ ⟨_, rfl, rfl, rfl, rfl⟩
  show u_P L xs n d m_X12_needs 9 [(0, .ref 100), (1, .int l), (2, .int h)] [.int (z_in l 0 9)] S R _
  refine u_if_eq rfl (fun h1 => ?_) (fun h1 => ?_)
  · show u_P L xs n d m_X12_needs 27 [(0, .ref 100), (1, .int l), (2, .int h)] [] S R _
    refine u_st rfl (fun _ => rfl) ?_
    show u_P L xs n d m_X12_needs 28 [(0, .ref 100), (1, .int l), (2, .int h)] [.int (Int32.ofInt 0)] S R _
    exact u_retb rfl rfl ⟨_, rfl, rfl, by rw [f_X12_needs, if_pos h1], by rw [g_X12_needs, if_pos h1]⟩
  · show u_P L xs n d m_X12_needs 12 [(0, .ref 100), (1, .int l), (2, .int h)] [] S R _
    refine u_st rfl (fun _ => rfl) ?_
    show u_P L xs n d m_X12_needs 13 [(0, .ref 100), (1, .int l), (2, .int h)] [.int h] S R _
    refine u_cs (ac := [.int h]) (rest := []) rfl (by decide) mt_X12_areHabits (fun _ => rfl) (Nat.le_of_ble_eq_true rfl) (Nat.le_of_ble_eq_true rfl) (fun d' => c_X12_areHabits L xs n d' h S R) ?_
    rintro _ _ _ ⟨_, rfl, rfl, rfl, rfl⟩
    show u_P L xs n d m_X12_needs 16 [(0, .ref 100), (1, .int l), (2, .int h)] [.int (f_X12_areHabits h)] S R _
    refine u_if_eq rfl (fun h2 => ?_) (fun h2 => ?_)
    · show u_P L xs n d m_X12_needs 27 [(0, .ref 100), (1, .int l), (2, .int h)] [] S R _
      refine u_st rfl (fun _ => rfl) ?_
      show u_P L xs n d m_X12_needs 28 [(0, .ref 100), (1, .int l), (2, .int h)] [.int (Int32.ofInt 0)] S R _
      exact u_retb rfl rfl ⟨_, rfl, rfl, by rw [f_X12_needs, if_neg h1, if_pos h2], by rw [g_X12_needs, if_neg h1, if_pos h2]⟩
    · show u_P L xs n d m_X12_needs 19 [(0, .ref 100), (1, .int l), (2, .int h)] [] S R _
      refine u_st rfl (fun _ => rfl) ?_
      refine u_st rfl (fun _ => rfl) ?_
      show u_P L xs n d m_X12_needs 21 [(0, .ref 100), (1, .int l), (2, .int h)] [.int l, .int h] S R _
      refine u_cs (ac := [.int h, .int l]) (rest := []) rfl (by decide) mt_X12_has (fun _ => rfl) (Nat.le_of_ble_eq_true rfl) (Nat.le_of_ble_eq_true rfl) (fun d' => c_X12_has L xs n d' h l S R) ?_
      rintro _ _ _ ⟨_, rfl, rfl, rfl, rfl⟩
      show u_P L xs n d m_X12_needs 24 [(0, .ref 100), (1, .int l), (2, .int h)] [.int (f_X12_has h l)] S R _
      refine u_if_eq rfl (fun h3 => ?_) (fun h3 => ?_)
      · show u_P L xs n d m_X12_needs 29 [(0, .ref 100), (1, .int l), (2, .int h)] [] S R _
        refine u_st rfl (fun _ => rfl) ?_
        show u_P L xs n d m_X12_needs 30 [(0, .ref 100), (1, .int l), (2, .int h)] [.ref 100] S R _
        refine u_getr rfl v_tyM rfl ?_
        refine u_st rfl (fun _ => rfl) ?_
        refine u_st rfl (fun _ => rfl) ?_
        show u_P L xs n d m_X12_needs 35 [(0, .ref 100), (1, .int l), (2, .int h)] [.int h, .int l, .ref 133] S R _
        refine u_iast rfl rfl (fun b41 b42 => ?_)
        refine u_st rfl (fun _ => rfl) ?_
        show u_P L xs n d m_X12_needs 37 [(0, .ref 100), (1, .int l), (2, .int h)] [.int (Int32.ofInt 1)] (z_s S 132 l.toInt.toNat h) R _
        exact u_retb rfl rfl ⟨_, rfl, rfl, by rw [f_X12_needs, if_neg h1, if_neg h2, if_pos h3], by rw [g_X12_needs, if_neg h1, if_neg h2, if_pos h3]⟩
      · show u_P L xs n d m_X12_needs 27 [(0, .ref 100), (1, .int l), (2, .int h)] [] S R _
        refine u_st rfl (fun _ => rfl) ?_
        show u_P L xs n d m_X12_needs 28 [(0, .ref 100), (1, .int l), (2, .int h)] [.int (Int32.ofInt 0)] S R _
        exact u_retb rfl rfl ⟨_, rfl, rfl, by rw [f_X12_needs, if_neg h1, if_neg h2, if_neg h3], by rw [g_X12_needs, if_neg h1, if_neg h2, if_neg h3]⟩
noncomputable abbrev m_X12_wind : g_M := (g_cn 12, yX12_wind, cX12_wind, 4, (some .boolean), g_look2 ttX12_wind)
set_option maxRecDepth 20000 in
theorem mt_X12_wind : g_mt 260 = some m_X12_wind := rfl
noncomputable def f_X12_wind (k : Int32) (q : Int32) (l : Int32) (S : v_Sf) : Int32 := (if (z_in k 0 3) = 0 then Int32.ofInt 0 else (if (z_in q 0 7) = 0 then Int32.ofInt 0 else (if ¬ (z_in l 0 255) = 0 then Int32.ofInt 1 else Int32.ofInt 0)))
noncomputable def g_X12_wind (k : Int32) (q : Int32) (l : Int32) (S : v_Sf) : v_Sf := (if (z_in k 0 3) = 0 then S else (if (z_in q 0 7) = 0 then S else (if ¬ (z_in l 0 255) = 0 then z_s (z_s (z_s S 156 k.toInt.toNat (u_nar 2 (Int32.ofInt 1))) 157 k.toInt.toNat q) 158 k.toInt.toNat l else S)))
set_option maxRecDepth 4000 in
theorem c_X12_wind (L : Nat) (xs : Nat → Int32) (n d : Nat) (k : Int32) (q : Int32) (l : Int32) (S : v_Sf) (R : v_Rf) : u_P L xs n d m_X12_wind 0 (lv_args 0 [.ref 100, .int k, .int q, .int l]) [] S R (z_Q R (fun v S1 => f_X12_wind k q l S = v ∧ g_X12_wind k q l S = S1)) := by
  show u_P L xs n d m_X12_wind 0 [(0, .ref 100), (1, .int k), (2, .int q), (3, .int l)] [] S R _
  refine u_st rfl (fun _ => rfl) ?_
  refine u_st rfl (fun _ => rfl) ?_
  refine u_st rfl (fun _ => rfl) ?_
  refine u_st rfl (fun _ => rfl) ?_
  show u_P L xs n d m_X12_wind 6 [(0, .ref 100), (1, .int k), (2, .int q), (3, .int l)] [.long (Int64.ofInt 3), .long (Int64.ofNat 0), .long k.toInt64] S R _
  refine u_cs (ac := [.long k.toInt64, .long (Int64.ofNat 0), .long (Int64.ofInt 3)]) (rest := []) rfl (by decide) mt_X12_lies (fun _ => rfl) (Nat.le_of_ble_eq_true rfl) (Nat.le_of_ble_eq_true rfl) (fun d' => z_liesC L xs n d' k (Int64.ofNat 0) (Int64.ofInt 3) (lo := 0) (hi := 3) rfl rfl S R) ?_
  rintro _ _ _ ⟨_, rfl, rfl, rfl, rfl⟩
  show u_P L xs n d m_X12_wind 9 [(0, .ref 100), (1, .int k), (2, .int q), (3, .int l)] [.int (z_in k 0 3)] S R _
  refine u_if_eq rfl (fun h1 => ?_) (fun h1 => ?_)
  · show u_P L xs n d m_X12_wind 36 [(0, .ref 100), (1, .int k), (2, .int q), (3, .int l)] [] S R _
    refine u_st rfl (fun _ => rfl) ?_
    show u_P L xs n d m_X12_wind 37 [(0, .ref 100), (1, .int k), (2, .int q), (3, .int l)] [.int (Int32.ofInt 0)] S R _
    exact u_retb rfl rfl ⟨_, rfl, rfl, by rw [f_X12_wind, if_pos h1], by rw [g_X12_wind, if_pos h1]⟩
  · show u_P L xs n d m_X12_wind 12 [(0, .ref 100), (1, .int k), (2, .int q), (3, .int l)] [] S R _
    refine u_st rfl (fun _ => rfl) ?_
    refine u_st rfl (fun _ => rfl) ?_
    refine u_st rfl (fun _ => rfl) ?_
    refine u_st rfl (fun _ => rfl) ?_
    show u_P L xs n d m_X12_wind 18 [(0, .ref 100), (1, .int k), (2, .int q), (3, .int l)] [.long (Int64.ofInt 7), .long (Int64.ofNat 0), .long q.toInt64] S R _
    refine u_cs (ac := [.long q.toInt64, .long (Int64.ofNat 0), .long (Int64.ofInt 7)]) (rest := []) rfl (by decide) mt_X12_lies (fun _ => rfl) (Nat.le_of_ble_eq_true rfl) (Nat.le_of_ble_eq_true rfl) (fun d' => z_liesC L xs n d' q (Int64.ofNat 0) (Int64.ofInt 7) (lo := 0) (hi := 7) rfl rfl S R) ?_
    rintro _ _ _ ⟨_, rfl, rfl, rfl, rfl⟩
    show u_P L xs n d m_X12_wind 21 [(0, .ref 100), (1, .int k), (2, .int q), (3, .int l)] [.int (z_in q 0 7)] S R _
    refine u_if_eq rfl (fun h2 => ?_) (fun h2 => ?_)
    · show u_P L xs n d m_X12_wind 36 [(0, .ref 100), (1, .int k), (2, .int q), (3, .int l)] [] S R _
      refine u_st rfl (fun _ => rfl) ?_
      show u_P L xs n d m_X12_wind 37 [(0, .ref 100), (1, .int k), (2, .int q), (3, .int l)] [.int (Int32.ofInt 0)] S R _
      exact u_retb rfl rfl ⟨_, rfl, rfl, by rw [f_X12_wind, if_neg h1, if_pos h2], by rw [g_X12_wind, if_neg h1, if_pos h2]⟩
    · show u_P L xs n d m_X12_wind 24 [(0, .ref 100), (1, .int k), (2, .int q), (3, .int l)] [] S R _
      refine u_st rfl (fun _ => rfl) ?_
      refine u_st rfl (fun _ => rfl) ?_
      refine u_st rfl (fun _ => rfl) ?_
      refine u_st rfl (fun _ => rfl) ?_
      show u_P L xs n d m_X12_wind 30 [(0, .ref 100), (1, .int k), (2, .int q), (3, .int l)] [.long (Int64.ofInt 255), .long (Int64.ofNat 0), .long l.toInt64] S R _
      refine u_cs (ac := [.long l.toInt64, .long (Int64.ofNat 0), .long (Int64.ofInt 255)]) (rest := []) rfl (by decide) mt_X12_lies (fun _ => rfl) (Nat.le_of_ble_eq_true rfl) (Nat.le_of_ble_eq_true rfl) (fun d' => z_liesC L xs n d' l (Int64.ofNat 0) (Int64.ofInt 255) (lo := 0) (hi := 255) rfl rfl S R) ?_
      rintro _ _ _ ⟨_, rfl, rfl, rfl, rfl⟩
      show u_P L xs n d m_X12_wind 33 [(0, .ref 100), (1, .int k), (2, .int q), (3, .int l)] [.int (z_in l 0 255)] S R _
      refine u_if_ne rfl (fun h3 => ?_) (fun h3 => ?_)
      · show u_P L xs n d m_X12_wind 38 [(0, .ref 100), (1, .int k), (2, .int q), (3, .int l)] [] S R _
        refine u_st rfl (fun _ => rfl) ?_
        show u_P L xs n d m_X12_wind 39 [(0, .ref 100), (1, .int k), (2, .int q), (3, .int l)] [.ref 100] S R _
        refine u_getr rfl v_tyM rfl ?_
        refine u_st rfl (fun _ => rfl) ?_
        refine u_st rfl (fun _ => rfl) ?_
        show u_P L xs n d m_X12_wind 44 [(0, .ref 100), (1, .int k), (2, .int q), (3, .int l)] [.int (Int32.ofInt 1), .int k, .ref 157] S R _
        refine u_bast rfl rfl (by decide) (fun b41 b42 => ?_)
        refine u_st rfl (fun _ => rfl) ?_
        show u_P L xs n d m_X12_wind 46 [(0, .ref 100), (1, .int k), (2, .int q), (3, .int l)] [.ref 100] (z_s S 156 k.toInt.toNat (u_nar 2 (Int32.ofInt 1))) R _
        refine u_getr rfl v_tyM rfl ?_
        refine u_st rfl (fun _ => rfl) ?_
        refine u_st rfl (fun _ => rfl) ?_
        show u_P L xs n d m_X12_wind 51 [(0, .ref 100), (1, .int k), (2, .int q), (3, .int l)] [.int q, .int k, .ref 158] (z_s S 156 k.toInt.toNat (u_nar 2 (Int32.ofInt 1))) R _
        refine u_iast rfl rfl (fun b51 b52 => ?_)
        refine u_st rfl (fun _ => rfl) ?_
        show u_P L xs n d m_X12_wind 53 [(0, .ref 100), (1, .int k), (2, .int q), (3, .int l)] [.ref 100] (z_s (z_s S 156 k.toInt.toNat (u_nar 2 (Int32.ofInt 1))) 157 k.toInt.toNat q) R _
        refine u_getr rfl v_tyM rfl ?_
        refine u_st rfl (fun _ => rfl) ?_
        refine u_st rfl (fun _ => rfl) ?_
        show u_P L xs n d m_X12_wind 58 [(0, .ref 100), (1, .int k), (2, .int q), (3, .int l)] [.int l, .int k, .ref 159] (z_s (z_s S 156 k.toInt.toNat (u_nar 2 (Int32.ofInt 1))) 157 k.toInt.toNat q) R _
        refine u_iast rfl rfl (fun b61 b62 => ?_)
        refine u_st rfl (fun _ => rfl) ?_
        show u_P L xs n d m_X12_wind 60 [(0, .ref 100), (1, .int k), (2, .int q), (3, .int l)] [.int (Int32.ofInt 1)] (z_s (z_s (z_s S 156 k.toInt.toNat (u_nar 2 (Int32.ofInt 1))) 157 k.toInt.toNat q) 158 k.toInt.toNat l) R _
        exact u_retb rfl rfl ⟨_, rfl, rfl, by rw [f_X12_wind, if_neg h1, if_neg h2, if_pos h3], by rw [g_X12_wind, if_neg h1, if_neg h2, if_pos h3]⟩
      · show u_P L xs n d m_X12_wind 36 [(0, .ref 100), (1, .int k), (2, .int q), (3, .int l)] [] S R _
        refine u_st rfl (fun _ => rfl) ?_
        show u_P L xs n d m_X12_wind 37 [(0, .ref 100), (1, .int k), (2, .int q), (3, .int l)] [.int (Int32.ofInt 0)] S R _
        exact u_retb rfl rfl ⟨_, rfl, rfl, by rw [f_X12_wind, if_neg h1, if_neg h2, if_neg h3], by rw [g_X12_wind, if_neg h1, if_neg h2, if_neg h3]⟩
noncomputable abbrev m_X12_home : g_M := (g_cn 12, yX12_home, cX12_home, 3, (some .boolean), g_look2 ttX12_home)
set_option maxRecDepth 20000 in
theorem mt_X12_home : g_mt 266 = some m_X12_home := rfl
noncomputable def f_X12_home (k : Int32) (h : Int32) (S : v_Sf) : Int32 := (if (z_in k 0 9) = 0 then Int32.ofInt 0 else (if ¬ (f_X12_areHabits h) = 0 then Int32.ofInt 1 else Int32.ofInt 0))
noncomputable def g_X12_home (k : Int32) (h : Int32) (S : v_Sf) : v_Sf := (if (z_in k 0 9) = 0 then S else (if ¬ (f_X12_areHabits h) = 0 then z_s (z_s S 159 k.toInt.toNat (u_nar 2 (Int32.ofInt 1))) 160 k.toInt.toNat h else S))
set_option maxRecDepth 4000 in
theorem c_X12_home (L : Nat) (xs : Nat → Int32) (n d : Nat) (k : Int32) (h : Int32) (S : v_Sf) (R : v_Rf) : u_P L xs n d m_X12_home 0 (lv_args 0 [.ref 100, .int k, .int h]) [] S R (z_Q R (fun v S1 => f_X12_home k h S = v ∧ g_X12_home k h S = S1)) := by
  show u_P L xs n d m_X12_home 0 [(0, .ref 100), (1, .int k), (2, .int h)] [] S R _
  refine u_st rfl (fun _ => rfl) ?_
  refine u_st rfl (fun _ => rfl) ?_
  refine u_st rfl (fun _ => rfl) ?_
  refine u_st rfl (fun _ => rfl) ?_
  show u_P L xs n d m_X12_home 6 [(0, .ref 100), (1, .int k), (2, .int h)] [.long (Int64.ofInt 9), .long (Int64.ofNat 0), .long k.toInt64] S R _
  refine u_cs (ac := [.long k.toInt64, .long (Int64.ofNat 0), .long (Int64.ofInt 9)]) (rest := []) rfl (by decide) mt_X12_lies (fun _ => rfl) (Nat.le_of_ble_eq_true rfl) (Nat.le_of_ble_eq_true rfl) (fun d' => z_liesC L xs n d' k (Int64.ofNat 0) (Int64.ofInt 9) (lo := 0) (hi := 9) rfl rfl S R) ?_
  rintro _ _ _ ⟨_, rfl, rfl, rfl, rfl⟩
  show u_P L xs n d m_X12_home 9 [(0, .ref 100), (1, .int k), (2, .int h)] [.int (z_in k 0 9)] S R _
  refine u_if_eq rfl (fun h1 => ?_) (fun h1 => ?_)
  · show u_P L xs n d m_X12_home 19 [(0, .ref 100), (1, .int k), (2, .int h)] [] S R _
    refine u_st rfl (fun _ => rfl) ?_
    show u_P L xs n d m_X12_home 20 [(0, .ref 100), (1, .int k), (2, .int h)] [.int (Int32.ofInt 0)] S R _
    exact u_retb rfl rfl ⟨_, rfl, rfl, by rw [f_X12_home, if_pos h1], by rw [g_X12_home, if_pos h1]⟩
  · show u_P L xs n d m_X12_home 12 [(0, .ref 100), (1, .int k), (2, .int h)] [] S R _
    refine u_st rfl (fun _ => rfl) ?_
    show u_P L xs n d m_X12_home 13 [(0, .ref 100), (1, .int k), (2, .int h)] [.int h] S R _
    refine u_cs (ac := [.int h]) (rest := []) rfl (by decide) mt_X12_areHabits (fun _ => rfl) (Nat.le_of_ble_eq_true rfl) (Nat.le_of_ble_eq_true rfl) (fun d' => c_X12_areHabits L xs n d' h S R) ?_
    rintro _ _ _ ⟨_, rfl, rfl, rfl, rfl⟩
    show u_P L xs n d m_X12_home 16 [(0, .ref 100), (1, .int k), (2, .int h)] [.int (f_X12_areHabits h)] S R _
    refine u_if_ne rfl (fun h2 => ?_) (fun h2 => ?_)
    · show u_P L xs n d m_X12_home 21 [(0, .ref 100), (1, .int k), (2, .int h)] [] S R _
      refine u_st rfl (fun _ => rfl) ?_
      show u_P L xs n d m_X12_home 22 [(0, .ref 100), (1, .int k), (2, .int h)] [.ref 100] S R _
      refine u_getr rfl v_tyM rfl ?_
      refine u_st rfl (fun _ => rfl) ?_
      refine u_st rfl (fun _ => rfl) ?_
      show u_P L xs n d m_X12_home 27 [(0, .ref 100), (1, .int k), (2, .int h)] [.int (Int32.ofInt 1), .int k, .ref 160] S R _
      refine u_bast rfl rfl (by decide) (fun b31 b32 => ?_)
      refine u_st rfl (fun _ => rfl) ?_
      show u_P L xs n d m_X12_home 29 [(0, .ref 100), (1, .int k), (2, .int h)] [.ref 100] (z_s S 159 k.toInt.toNat (u_nar 2 (Int32.ofInt 1))) R _
      refine u_getr rfl v_tyM rfl ?_
      refine u_st rfl (fun _ => rfl) ?_
      refine u_st rfl (fun _ => rfl) ?_
      show u_P L xs n d m_X12_home 34 [(0, .ref 100), (1, .int k), (2, .int h)] [.int h, .int k, .ref 161] (z_s S 159 k.toInt.toNat (u_nar 2 (Int32.ofInt 1))) R _
      refine u_iast rfl rfl (fun b41 b42 => ?_)
      refine u_st rfl (fun _ => rfl) ?_
      show u_P L xs n d m_X12_home 36 [(0, .ref 100), (1, .int k), (2, .int h)] [.int (Int32.ofInt 1)] (z_s (z_s S 159 k.toInt.toNat (u_nar 2 (Int32.ofInt 1))) 160 k.toInt.toNat h) R _
      exact u_retb rfl rfl ⟨_, rfl, rfl, by rw [f_X12_home, if_neg h1, if_pos h2], by rw [g_X12_home, if_neg h1, if_pos h2]⟩
    · show u_P L xs n d m_X12_home 19 [(0, .ref 100), (1, .int k), (2, .int h)] [] S R _
      refine u_st rfl (fun _ => rfl) ?_
      show u_P L xs n d m_X12_home 20 [(0, .ref 100), (1, .int k), (2, .int h)] [.int (Int32.ofInt 0)] S R _
      exact u_retb rfl rfl ⟨_, rfl, rfl, by rw [f_X12_home, if_neg h1, if_neg h2], by rw [g_X12_home, if_neg h1, if_neg h2]⟩
noncomputable abbrev m_X12_house : g_M := (g_cn 12, yX12_house, cX12_house, 4, (some .boolean), g_look2 ttX12_house)
set_option maxRecDepth 20000 in
theorem mt_X12_house : g_mt 272 = some m_X12_house := rfl
noncomputable def f_X12_house (k : Int32) (r : Int32) (h : Int32) (S : v_Sf) : Int32 := (if (z_in k 0 4) = 0 then Int32.ofInt 0 else (if (z_in r 0 99) = 0 then Int32.ofInt 0 else (if ¬ (f_X12_areHabits h) = 0 then Int32.ofInt 1 else Int32.ofInt 0)))
noncomputable def g_X12_house (k : Int32) (r : Int32) (h : Int32) (S : v_Sf) : v_Sf := (if (z_in k 0 4) = 0 then S else (if (z_in r 0 99) = 0 then S else (if ¬ (f_X12_areHabits h) = 0 then z_s (z_s (z_s S 162 k.toInt.toNat (u_nar 2 (Int32.ofInt 1))) 163 k.toInt.toNat r) 164 k.toInt.toNat h else S)))
set_option maxRecDepth 4000 in
theorem c_X12_house (L : Nat) (xs : Nat → Int32) (n d : Nat) (k : Int32) (r : Int32) (h : Int32) (S : v_Sf) (R : v_Rf) : u_P L xs n d m_X12_house 0 (lv_args 0 [.ref 100, .int k, .int r, .int h]) [] S R (z_Q R (fun v S1 => f_X12_house k r h S = v ∧ g_X12_house k r h S = S1)) := by
  show u_P L xs n d m_X12_house 0 [(0, .ref 100), (1, .int k), (2, .int r), (3, .int h)] [] S R _
  refine u_st rfl (fun _ => rfl) ?_
  refine u_st rfl (fun _ => rfl) ?_
  refine u_st rfl (fun _ => rfl) ?_
  refine u_st rfl (fun _ => rfl) ?_
  show u_P L xs n d m_X12_house 6 [(0, .ref 100), (1, .int k), (2, .int r), (3, .int h)] [.long (Int64.ofInt 4), .long (Int64.ofNat 0), .long k.toInt64] S R _
  refine u_cs (ac := [.long k.toInt64, .long (Int64.ofNat 0), .long (Int64.ofInt 4)]) (rest := []) rfl (by decide) mt_X12_lies (fun _ => rfl) (Nat.le_of_ble_eq_true rfl) (Nat.le_of_ble_eq_true rfl) (fun d' => z_liesC L xs n d' k (Int64.ofNat 0) (Int64.ofInt 4) (lo := 0) (hi := 4) rfl rfl S R) ?_
  rintro _ _ _ ⟨_, rfl, rfl, rfl, rfl⟩
  show u_P L xs n d m_X12_house 9 [(0, .ref 100), (1, .int k), (2, .int r), (3, .int h)] [.int (z_in k 0 4)] S R _
  refine u_if_eq rfl (fun h1 => ?_) (fun h1 => ?_)
  · show u_P L xs n d m_X12_house 31 [(0, .ref 100), (1, .int k), (2, .int r), (3, .int h)] [] S R _
    refine u_st rfl (fun _ => rfl) ?_
    show u_P L xs n d m_X12_house 32 [(0, .ref 100), (1, .int k), (2, .int r), (3, .int h)] [.int (Int32.ofInt 0)] S R _
    exact u_retb rfl rfl ⟨_, rfl, rfl, by rw [f_X12_house, if_pos h1], by rw [g_X12_house, if_pos h1]⟩
  · show u_P L xs n d m_X12_house 12 [(0, .ref 100), (1, .int k), (2, .int r), (3, .int h)] [] S R _
    refine u_st rfl (fun _ => rfl) ?_
    refine u_st rfl (fun _ => rfl) ?_
    refine u_st rfl (fun _ => rfl) ?_
    refine u_st rfl (fun _ => rfl) ?_
    show u_P L xs n d m_X12_house 18 [(0, .ref 100), (1, .int k), (2, .int r), (3, .int h)] [.long (Int64.ofInt 99), .long (Int64.ofNat 0), .long r.toInt64] S R _
    refine u_cs (ac := [.long r.toInt64, .long (Int64.ofNat 0), .long (Int64.ofInt 99)]) (rest := []) rfl (by decide) mt_X12_lies (fun _ => rfl) (Nat.le_of_ble_eq_true rfl) (Nat.le_of_ble_eq_true rfl) (fun d' => z_liesC L xs n d' r (Int64.ofNat 0) (Int64.ofInt 99) (lo := 0) (hi := 99) rfl rfl S R) ?_
    rintro _ _ _ ⟨_, rfl, rfl, rfl, rfl⟩
    show u_P L xs n d m_X12_house 21 [(0, .ref 100), (1, .int k), (2, .int r), (3, .int h)] [.int (z_in r 0 99)] S R _
    refine u_if_eq rfl (fun h2 => ?_) (fun h2 => ?_)
    · show u_P L xs n d m_X12_house 31 [(0, .ref 100), (1, .int k), (2, .int r), (3, .int h)] [] S R _
      refine u_st rfl (fun _ => rfl) ?_
      show u_P L xs n d m_X12_house 32 [(0, .ref 100), (1, .int k), (2, .int r), (3, .int h)] [.int (Int32.ofInt 0)] S R _
      exact u_retb rfl rfl ⟨_, rfl, rfl, by rw [f_X12_house, if_neg h1, if_pos h2], by rw [g_X12_house, if_neg h1, if_pos h2]⟩
    · show u_P L xs n d m_X12_house 24 [(0, .ref 100), (1, .int k), (2, .int r), (3, .int h)] [] S R _
      refine u_st rfl (fun _ => rfl) ?_
      show u_P L xs n d m_X12_house 25 [(0, .ref 100), (1, .int k), (2, .int r), (3, .int h)] [.int h] S R _
      refine u_cs (ac := [.int h]) (rest := []) rfl (by decide) mt_X12_areHabits (fun _ => rfl) (Nat.le_of_ble_eq_true rfl) (Nat.le_of_ble_eq_true rfl) (fun d' => c_X12_areHabits L xs n d' h S R) ?_
      rintro _ _ _ ⟨_, rfl, rfl, rfl, rfl⟩
      show u_P L xs n d m_X12_house 28 [(0, .ref 100), (1, .int k), (2, .int r), (3, .int h)] [.int (f_X12_areHabits h)] S R _
      refine u_if_ne rfl (fun h3 => ?_) (fun h3 => ?_)
      · show u_P L xs n d m_X12_house 33 [(0, .ref 100), (1, .int k), (2, .int r), (3, .int h)] [] S R _
        refine u_st rfl (fun _ => rfl) ?_
        show u_P L xs n d m_X12_house 34 [(0, .ref 100), (1, .int k), (2, .int r), (3, .int h)] [.ref 100] S R _
        refine u_getr rfl v_tyM rfl ?_
        refine u_st rfl (fun _ => rfl) ?_
        refine u_st rfl (fun _ => rfl) ?_
        show u_P L xs n d m_X12_house 39 [(0, .ref 100), (1, .int k), (2, .int r), (3, .int h)] [.int (Int32.ofInt 1), .int k, .ref 163] S R _
        refine u_bast rfl rfl (by decide) (fun b41 b42 => ?_)
        refine u_st rfl (fun _ => rfl) ?_
        show u_P L xs n d m_X12_house 41 [(0, .ref 100), (1, .int k), (2, .int r), (3, .int h)] [.ref 100] (z_s S 162 k.toInt.toNat (u_nar 2 (Int32.ofInt 1))) R _
        refine u_getr rfl v_tyM rfl ?_
        refine u_st rfl (fun _ => rfl) ?_
        refine u_st rfl (fun _ => rfl) ?_
        show u_P L xs n d m_X12_house 46 [(0, .ref 100), (1, .int k), (2, .int r), (3, .int h)] [.int r, .int k, .ref 164] (z_s S 162 k.toInt.toNat (u_nar 2 (Int32.ofInt 1))) R _
        refine u_iast rfl rfl (fun b51 b52 => ?_)
        refine u_st rfl (fun _ => rfl) ?_
        show u_P L xs n d m_X12_house 48 [(0, .ref 100), (1, .int k), (2, .int r), (3, .int h)] [.ref 100] (z_s (z_s S 162 k.toInt.toNat (u_nar 2 (Int32.ofInt 1))) 163 k.toInt.toNat r) R _
        refine u_getr rfl v_tyM rfl ?_
        refine u_st rfl (fun _ => rfl) ?_
        refine u_st rfl (fun _ => rfl) ?_
        show u_P L xs n d m_X12_house 53 [(0, .ref 100), (1, .int k), (2, .int r), (3, .int h)] [.int h, .int k, .ref 165] (z_s (z_s S 162 k.toInt.toNat (u_nar 2 (Int32.ofInt 1))) 163 k.toInt.toNat r) R _
        refine u_iast rfl rfl (fun b61 b62 => ?_)
        refine u_st rfl (fun _ => rfl) ?_
        show u_P L xs n d m_X12_house 55 [(0, .ref 100), (1, .int k), (2, .int r), (3, .int h)] [.int (Int32.ofInt 1)] (z_s (z_s (z_s S 162 k.toInt.toNat (u_nar 2 (Int32.ofInt 1))) 163 k.toInt.toNat r) 164 k.toInt.toNat h) R _
        exact u_retb rfl rfl ⟨_, rfl, rfl, by rw [f_X12_house, if_neg h1, if_neg h2, if_pos h3], by rw [g_X12_house, if_neg h1, if_neg h2, if_pos h3]⟩
      · show u_P L xs n d m_X12_house 31 [(0, .ref 100), (1, .int k), (2, .int r), (3, .int h)] [] S R _
        refine u_st rfl (fun _ => rfl) ?_
        show u_P L xs n d m_X12_house 32 [(0, .ref 100), (1, .int k), (2, .int r), (3, .int h)] [.int (Int32.ofInt 0)] S R _
        exact u_retb rfl rfl ⟨_, rfl, rfl, by rw [f_X12_house, if_neg h1, if_neg h2, if_neg h3], by rw [g_X12_house, if_neg h1, if_neg h2, if_neg h3]⟩
noncomputable abbrev m_X12_seed : g_M := (g_cn 12, yX12_seed, cX12_seed, 2, (some .boolean), g_look2 ttX12_seed)
set_option maxRecDepth 20000 in
theorem mt_X12_seed : g_mt 293 = some m_X12_seed := rfl
noncomputable def f_X12_seed (x : Int32) (S : v_Sf) : Int32 := (if ¬ (z_in x 0 65535) = 0 then Int32.ofInt 1 else Int32.ofInt 0)
noncomputable def g_X12_seed (x : Int32) (S : v_Sf) : v_Sf := (if ¬ (z_in x 0 65535) = 0 then z_s S 99 2 x else S)
set_option maxRecDepth 4000 in
theorem c_X12_seed (L : Nat) (xs : Nat → Int32) (n d : Nat) (x : Int32) (S : v_Sf) (R : v_Rf) : u_P L xs n d m_X12_seed 0 (lv_args 0 [.ref 100, .int x]) [] S R (z_Q R (fun v S1 => f_X12_seed x S = v ∧ g_X12_seed x S = S1)) := by
  show u_P L xs n d m_X12_seed 0 [(0, .ref 100), (1, .int x)] [] S R _
  refine u_st rfl (fun _ => rfl) ?_
  refine u_st rfl (fun _ => rfl) ?_
  refine u_st rfl (fun _ => rfl) ?_
  refine u_st rfl (fun _ => rfl) ?_
  show u_P L xs n d m_X12_seed 6 [(0, .ref 100), (1, .int x)] [.long (Int64.ofInt 65535), .long (Int64.ofNat 0), .long x.toInt64] S R _
  refine u_cs (ac := [.long x.toInt64, .long (Int64.ofNat 0), .long (Int64.ofInt 65535)]) (rest := []) rfl (by decide) mt_X12_lies (fun _ => rfl) (Nat.le_of_ble_eq_true rfl) (Nat.le_of_ble_eq_true rfl) (fun d' => z_liesC L xs n d' x (Int64.ofNat 0) (Int64.ofInt 65535) (lo := 0) (hi := 65535) rfl rfl S R) ?_
  rintro _ _ _ ⟨_, rfl, rfl, rfl, rfl⟩
  show u_P L xs n d m_X12_seed 9 [(0, .ref 100), (1, .int x)] [.int (z_in x 0 65535)] S R _
  refine u_if_ne rfl (fun h1 => ?_) (fun h1 => ?_)
  · show u_P L xs n d m_X12_seed 14 [(0, .ref 100), (1, .int x)] [] S R _
    refine u_st rfl (fun _ => rfl) ?_
    refine u_st rfl (fun _ => rfl) ?_
    show u_P L xs n d m_X12_seed 16 [(0, .ref 100), (1, .int x)] [.int x, .ref 100] S R _
    refine u_put rfl v_tyM rfl ?_
    refine u_st rfl (fun _ => rfl) ?_
    show u_P L xs n d m_X12_seed 20 [(0, .ref 100), (1, .int x)] [.int (Int32.ofInt 1)] (z_s S 99 2 x) R _
    exact u_retb rfl rfl ⟨_, rfl, rfl, by rw [f_X12_seed, if_pos h1], by rw [g_X12_seed, if_pos h1]⟩
  · show u_P L xs n d m_X12_seed 12 [(0, .ref 100), (1, .int x)] [] S R _
    refine u_st rfl (fun _ => rfl) ?_
    show u_P L xs n d m_X12_seed 13 [(0, .ref 100), (1, .int x)] [.int (Int32.ofInt 0)] S R _
    exact u_retb rfl rfl ⟨_, rfl, rfl, by rw [f_X12_seed, if_neg h1], by rw [g_X12_seed, if_neg h1]⟩
noncomputable abbrev m_X12_draw : g_M := (g_cn 12, yX12_draw, cX12_draw, 1, (some .int), g_look2 ttX12_draw)
set_option maxRecDepth 20000 in
theorem mt_X12_draw : g_mt 227 = some m_X12_draw := rfl
noncomputable def f_X12_draw  (S : v_Sf) : Int32 := ((((Int32.ofInt 25173) * (S 99 2)) + (Int32.ofInt 13849)) - (((Int32.ofInt 25173) * (S 99 2)) + (Int32.ofInt 13849)) / (Int32.ofInt 65536) * (Int32.ofInt 65536)) - ((((Int32.ofInt 25173) * (S 99 2)) + (Int32.ofInt 13849)) - (((Int32.ofInt 25173) * (S 99 2)) + (Int32.ofInt 13849)) / (Int32.ofInt 65536) * (Int32.ofInt 65536)) / (Int32.ofInt 10) * (Int32.ofInt 10)
noncomputable def g_X12_draw  (S : v_Sf) : v_Sf := z_s S 99 2 ((((Int32.ofInt 25173) * (S 99 2)) + (Int32.ofInt 13849)) - (((Int32.ofInt 25173) * (S 99 2)) + (Int32.ofInt 13849)) / (Int32.ofInt 65536) * (Int32.ofInt 65536))
set_option maxRecDepth 4000 in
theorem c_X12_draw (L : Nat) (xs : Nat → Int32) (n d : Nat)  (S : v_Sf) (R : v_Rf) : u_P L xs n d m_X12_draw 0 (lv_args 0 [.ref 100]) [] S R (z_Q R (fun v S1 => f_X12_draw  S = v ∧ g_X12_draw  S = S1)) := by
  show u_P L xs n d m_X12_draw 0 [(0, .ref 100)] [] S R _
  refine u_st rfl (fun _ => rfl) ?_
  refine u_st rfl (fun _ => rfl) ?_
  refine u_st rfl (fun _ => rfl) ?_
  show u_P L xs n d m_X12_draw 5 [(0, .ref 100)] [.ref 100, .int (Int32.ofInt 25173), .ref 100] S R _
  refine u_getE (v := S 99 2) rfl v_tyM rfl rfl ?_
  refine u_st rfl (fun _ => rfl) ?_
  refine u_st rfl (fun _ => rfl) ?_
  refine u_st rfl (fun _ => rfl) ?_
  refine u_st rfl (fun _ => rfl) ?_
  show u_P L xs n d m_X12_draw 16 [(0, .ref 100)] [.int (Int32.ofInt 65536), .int (((Int32.ofInt 25173) * (S 99 2)) + (Int32.ofInt 13849)), .ref 100] S R _
  refine u_irem rfl (fun b1 => ?_)
  show u_P L xs n d m_X12_draw 17 [(0, .ref 100)] [.int ((((Int32.ofInt 25173) * (S 99 2)) + (Int32.ofInt 13849)) - (((Int32.ofInt 25173) * (S 99 2)) + (Int32.ofInt 13849)) / (Int32.ofInt 65536) * (Int32.ofInt 65536)), .ref 100] S R _
  refine u_put rfl v_tyM rfl ?_
  refine u_st rfl (fun _ => rfl) ?_
  show u_P L xs n d m_X12_draw 21 [(0, .ref 100)] [.ref 100] (z_s S 99 2 ((((Int32.ofInt 25173) * (S 99 2)) + (Int32.ofInt 13849)) - (((Int32.ofInt 25173) * (S 99 2)) + (Int32.ofInt 13849)) / (Int32.ofInt 65536) * (Int32.ofInt 65536))) R _
  refine u_getE (v := (((Int32.ofInt 25173) * (S 99 2)) + (Int32.ofInt 13849)) - (((Int32.ofInt 25173) * (S 99 2)) + (Int32.ofInt 13849)) / (Int32.ofInt 65536) * (Int32.ofInt 65536)) rfl v_tyM rfl z_ss ?_
  refine u_st rfl (fun _ => rfl) ?_
  show u_P L xs n d m_X12_draw 26 [(0, .ref 100)] [.int (Int32.ofInt 10), .int ((((Int32.ofInt 25173) * (S 99 2)) + (Int32.ofInt 13849)) - (((Int32.ofInt 25173) * (S 99 2)) + (Int32.ofInt 13849)) / (Int32.ofInt 65536) * (Int32.ofInt 65536))] (z_s S 99 2 ((((Int32.ofInt 25173) * (S 99 2)) + (Int32.ofInt 13849)) - (((Int32.ofInt 25173) * (S 99 2)) + (Int32.ofInt 13849)) / (Int32.ofInt 65536) * (Int32.ofInt 65536))) R _
  refine u_irem rfl (fun b2 => ?_)
  show u_P L xs n d m_X12_draw 27 [(0, .ref 100)] [.int (((((Int32.ofInt 25173) * (S 99 2)) + (Int32.ofInt 13849)) - (((Int32.ofInt 25173) * (S 99 2)) + (Int32.ofInt 13849)) / (Int32.ofInt 65536) * (Int32.ofInt 65536)) - ((((Int32.ofInt 25173) * (S 99 2)) + (Int32.ofInt 13849)) - (((Int32.ofInt 25173) * (S 99 2)) + (Int32.ofInt 13849)) / (Int32.ofInt 65536) * (Int32.ofInt 65536)) / (Int32.ofInt 10) * (Int32.ofInt 10))] (z_s S 99 2 ((((Int32.ofInt 25173) * (S 99 2)) + (Int32.ofInt 13849)) - (((Int32.ofInt 25173) * (S 99 2)) + (Int32.ofInt 13849)) / (Int32.ofInt 65536) * (Int32.ofInt 65536))) R _
  exact u_ret rfl rfl ⟨_, rfl, rfl, rfl, rfl⟩
noncomputable abbrev m_X12_lessonOf : g_M := (g_cn 12, yX12_lessonOf, cX12_lessonOf, 2, (some .int), g_look2 ttX12_lessonOf)
set_option maxRecDepth 20000 in
theorem mt_X12_lessonOf : g_mt 226 = some m_X12_lessonOf := rfl
noncomputable def f_X12_lessonOf (w : Int32) (S : v_Sf) : Int32 := (if ¬ (S 127 w.toInt.toNat) = 0 then S 126 ((((Int32.ofInt 48) * w) + (S 128 w.toInt.toNat)).toInt.toNat) else Int32.ofInt (-1))
set_option maxRecDepth 4000 in
theorem c_X12_lessonOf (L : Nat) (xs : Nat → Int32) (n d : Nat) (w : Int32) (S : v_Sf) (R : v_Rf) : u_P L xs n d m_X12_lessonOf 0 (lv_args 0 [.ref 100, .int w]) [] S R (z_Q R (fun v S1 => f_X12_lessonOf w S = v ∧ S = S1)) := by
  show u_P L xs n d m_X12_lessonOf 0 [(0, .ref 100), (1, .int w)] [] S R _
  refine u_st rfl (fun _ => rfl) ?_
  show u_P L xs n d m_X12_lessonOf 1 [(0, .ref 100), (1, .int w)] [.ref 100] S R _
  refine u_getr rfl v_tyM rfl ?_
  refine u_st rfl (fun _ => rfl) ?_
  show u_P L xs n d m_X12_lessonOf 5 [(0, .ref 100), (1, .int w)] [.int w, .ref 128] S R _
  refine u_ialdE (v := S 127 w.toInt.toNat) rfl rfl rfl (fun b11 b12 => ?_)
  show u_P L xs n d m_X12_lessonOf 6 [(0, .ref 100), (1, .int w)] [.int (S 127 w.toInt.toNat)] S R _
  refine u_if_ne rfl (fun h2 => ?_) (fun h2 => ?_)
  · show u_P L xs n d m_X12_lessonOf 13 [(0, .ref 100), (1, .int w)] [] S R _
    refine u_st rfl (fun _ => rfl) ?_
    show u_P L xs n d m_X12_lessonOf 14 [(0, .ref 100), (1, .int w)] [.ref 100] S R _
    refine u_getr rfl v_tyM rfl ?_
    refine u_st rfl (fun _ => rfl) ?_
    refine u_st rfl (fun _ => rfl) ?_
    refine u_st rfl (fun _ => rfl) ?_
    refine u_st rfl (fun _ => rfl) ?_
    show u_P L xs n d m_X12_lessonOf 22 [(0, .ref 100), (1, .int w)] [.ref 100, .int ((Int32.ofInt 48) * w), .ref 127] S R _
    refine u_getr rfl v_tyM rfl ?_
    refine u_st rfl (fun _ => rfl) ?_
    show u_P L xs n d m_X12_lessonOf 26 [(0, .ref 100), (1, .int w)] [.int w, .ref 129, .int ((Int32.ofInt 48) * w), .ref 127] S R _
    refine u_ialdE (v := S 128 w.toInt.toNat) rfl rfl rfl (fun b31 b32 => ?_)
    refine u_st rfl (fun _ => rfl) ?_
    show u_P L xs n d m_X12_lessonOf 28 [(0, .ref 100), (1, .int w)] [.int (((Int32.ofInt 48) * w) + (S 128 w.toInt.toNat)), .ref 127] S R _
    refine u_ialdE (v := S 126 ((((Int32.ofInt 48) * w) + (S 128 w.toInt.toNat)).toInt.toNat)) rfl rfl rfl (fun b41 b42 => ?_)
    show u_P L xs n d m_X12_lessonOf 29 [(0, .ref 100), (1, .int w)] [.int (S 126 ((((Int32.ofInt 48) * w) + (S 128 w.toInt.toNat)).toInt.toNat))] S R _
    exact u_ret rfl rfl ⟨_, rfl, rfl, by rw [f_X12_lessonOf, if_pos h2], rfl⟩
  · show u_P L xs n d m_X12_lessonOf 9 [(0, .ref 100), (1, .int w)] [] S R _
    refine u_st rfl (fun _ => rfl) ?_
    refine u_st rfl (fun _ => rfl) ?_
    show u_P L xs n d m_X12_lessonOf 29 [(0, .ref 100), (1, .int w)] [.int (Int32.ofInt (-1))] S R _
    exact u_ret rfl rfl ⟨_, rfl, rfl, by rw [f_X12_lessonOf, if_neg h2], rfl⟩
noncomputable def f_X12_timesTold  (S : v_Sf) : Int32 := (if ¬ (z_in ((f_X12_here S)) 50 57) = 0 then (S 100 ((((S 99 3) + (Int32.ofInt 1)) - (Int32.ofInt 1)).toInt.toNat)) - (Int32.ofInt 48) else Int32.ofInt 1)
noncomputable def g_X12_timesTold  (S : v_Sf) : v_Sf := (if ¬ (z_in ((f_X12_here S)) 50 57) = 0 then z_s S 99 3 ((S 99 3) + (Int32.ofInt 1)) else S)
set_option maxRecDepth 4000 in
theorem c_X12_timesTold (L : Nat) (xs : Nat → Int32) (n d : Nat)  (S : v_Sf) (R : v_Rf) : u_P L xs n d m_X12_timesTold 0 (lv_args 0 [.ref 100]) [] S R (z_Q R (fun v S1 => f_X12_timesTold  S = v ∧ g_X12_timesTold  S = S1)) := by
  show u_P L xs n d m_X12_timesTold 0 [(0, .ref 100)] [] S R _
  refine u_st rfl (fun _ => rfl) ?_
  show u_P L xs n d m_X12_timesTold 1 [(0, .ref 100)] [.ref 100] S R _
  refine u_cv (rest := []) rfl (by decide) mt_X12_here v_tyM rfl rfl rfl (Nat.le_of_ble_eq_true rfl) (Nat.le_of_ble_eq_true rfl) (Nat.le_of_ble_eq_true rfl) (fun d' => c_X12_here L xs n d' S R) ?_
  rintro _ _ _ ⟨_, rfl, rfl, rfl, rfl⟩
  refine u_st rfl (fun _ => rfl) ?_
  refine u_st rfl (fun _ => rfl) ?_
  refine u_st rfl (fun _ => rfl) ?_
  show u_P L xs n d m_X12_timesTold 11 [(0, .ref 100)] [.long (Int64.ofInt 57), .long (Int64.ofInt 50), .long ((f_X12_here S).toInt64)] S R _
  refine u_cs (ac := [.long ((f_X12_here S).toInt64), .long (Int64.ofInt 50), .long (Int64.ofInt 57)]) (rest := []) rfl (by decide) mt_X12_lies (fun _ => rfl) (Nat.le_of_ble_eq_true rfl) (Nat.le_of_ble_eq_true rfl) (fun d' => z_liesC L xs n d' ((f_X12_here S)) (Int64.ofInt 50) (Int64.ofInt 57) (lo := 50) (hi := 57) rfl rfl S R) ?_
  rintro _ _ _ ⟨_, rfl, rfl, rfl, rfl⟩
  show u_P L xs n d m_X12_timesTold 14 [(0, .ref 100)] [.int (z_in ((f_X12_here S)) 50 57)] S R _
  refine u_if_ne rfl (fun h1 => ?_) (fun h1 => ?_)
  · show u_P L xs n d m_X12_timesTold 19 [(0, .ref 100)] [] S R _
    refine u_st rfl (fun _ => rfl) ?_
    refine u_st rfl (fun _ => rfl) ?_
    show u_P L xs n d m_X12_timesTold 21 [(0, .ref 100)] [.ref 100, .ref 100] S R _
    refine u_getE (v := S 99 3) rfl v_tyM rfl rfl ?_
    refine u_st rfl (fun _ => rfl) ?_
    refine u_st rfl (fun _ => rfl) ?_
    show u_P L xs n d m_X12_timesTold 26 [(0, .ref 100)] [.int ((S 99 3) + (Int32.ofInt 1)), .ref 100] S R _
    refine u_put rfl v_tyM rfl ?_
    refine u_st rfl (fun _ => rfl) ?_
    show u_P L xs n d m_X12_timesTold 30 [(0, .ref 100)] [.ref 100] (z_s S 99 3 ((S 99 3) + (Int32.ofInt 1))) R _
    refine u_getr rfl v_tyM rfl ?_
    refine u_st rfl (fun _ => rfl) ?_
    show u_P L xs n d m_X12_timesTold 34 [(0, .ref 100)] [.ref 100, .ref 101] (z_s S 99 3 ((S 99 3) + (Int32.ofInt 1))) R _
    refine u_getE (v := (S 99 3) + (Int32.ofInt 1)) rfl v_tyM rfl z_ss ?_
    refine u_st rfl (fun _ => rfl) ?_
    refine u_st rfl (fun _ => rfl) ?_
    show u_P L xs n d m_X12_timesTold 39 [(0, .ref 100)] [.int (((S 99 3) + (Int32.ofInt 1)) - (Int32.ofInt 1)), .ref 101] (z_s S 99 3 ((S 99 3) + (Int32.ofInt 1))) R _
    refine u_baldE (v := S 100 ((((S 99 3) + (Int32.ofInt 1)) - (Int32.ofInt 1)).toInt.toNat)) rfl rfl (by decide) (z_sn (fun h => absurd h.1 (by decide))) (fun b21 b22 => ?_)
    refine u_st rfl (fun _ => rfl) ?_
    refine u_st rfl (fun _ => rfl) ?_
    show u_P L xs n d m_X12_timesTold 43 [(0, .ref 100)] [.int ((S 100 ((((S 99 3) + (Int32.ofInt 1)) - (Int32.ofInt 1)).toInt.toNat)) - (Int32.ofInt 48))] (z_s S 99 3 ((S 99 3) + (Int32.ofInt 1))) R _
    exact u_ret rfl rfl ⟨_, rfl, rfl, by rw [f_X12_timesTold, if_pos h1], by rw [g_X12_timesTold, if_pos h1]⟩
  · show u_P L xs n d m_X12_timesTold 17 [(0, .ref 100)] [] S R _
    refine u_st rfl (fun _ => rfl) ?_
    show u_P L xs n d m_X12_timesTold 18 [(0, .ref 100)] [.int (Int32.ofInt 1)] S R _
    exact u_ret rfl rfl ⟨_, rfl, rfl, by rw [f_X12_timesTold, if_neg h1], by rw [g_X12_timesTold, if_neg h1]⟩
noncomputable abbrev m_X12_canGo : g_M := (g_cn 12, yX12_canGo, cX12_canGo, 4, (some .boolean), g_look2 ttX12_canGo)
set_option maxRecDepth 20000 in
theorem mt_X12_canGo : g_mt 261 = some m_X12_canGo := rfl
noncomputable def f_X12_canGo (g : Int32) (k : Int32) (S : v_Sf) : Int32 := (if ¬ k = (Int32.ofInt 4) then (if (S 156 k.toInt.toNat) = 0 then Int32.ofInt 0 else (if ¬ (S 118 g.toInt.toNat) = (Int32.ofInt (-1)) then (if ((((S 157 k.toInt.toNat) - (S 118 g.toInt.toNat)) + (Int32.ofInt 8)) - (((S 157 k.toInt.toNat) - (S 118 g.toInt.toNat)) + (Int32.ofInt 8)) / (Int32.ofInt 8) * (Int32.ofInt 8)) = 0 then Int32.ofInt 1 else (if ((((S 157 k.toInt.toNat) - (S 118 g.toInt.toNat)) + (Int32.ofInt 8)) - (((S 157 k.toInt.toNat) - (S 118 g.toInt.toNat)) + (Int32.ofInt 8)) / (Int32.ofInt 8) * (Int32.ofInt 8)) = (Int32.ofInt 1) then Int32.ofInt 1 else (if ¬ ((((S 157 k.toInt.toNat) - (S 118 g.toInt.toNat)) + (Int32.ofInt 8)) - (((S 157 k.toInt.toNat) - (S 118 g.toInt.toNat)) + (Int32.ofInt 8)) / (Int32.ofInt 8) * (Int32.ofInt 8)) = (Int32.ofInt 7) then Int32.ofInt 0 else Int32.ofInt 1))) else Int32.ofInt 0)) else Int32.ofInt 1)
set_option maxRecDepth 4000 in
theorem c_X12_canGo (L : Nat) (xs : Nat → Int32) (n d : Nat) (g : Int32) (k : Int32) (S : v_Sf) (R : v_Rf) : u_P L xs n d m_X12_canGo 0 (lv_args 0 [.ref 100, .int g, .int k]) [] S R (z_Q R (fun v S1 => f_X12_canGo g k S = v ∧ S = S1)) := by
  show u_P L xs n d m_X12_canGo 0 [(0, .ref 100), (1, .int g), (2, .int k)] [] S R _
  refine u_st rfl (fun _ => rfl) ?_
  refine u_st rfl (fun _ => rfl) ?_
  show u_P L xs n d m_X12_canGo 2 [(0, .ref 100), (1, .int g), (2, .int k)] [.int (Int32.ofInt 4), .int k] S R _
  refine u_ic_ne rfl (fun h1 => ?_) (fun h1 => ?_)
  · show u_P L xs n d m_X12_canGo 7 [(0, .ref 100), (1, .int g), (2, .int k)] [] S R _
    refine u_st rfl (fun _ => rfl) ?_
    show u_P L xs n d m_X12_canGo 8 [(0, .ref 100), (1, .int g), (2, .int k)] [.ref 100] S R _
    refine u_getr rfl v_tyM rfl ?_
    refine u_st rfl (fun _ => rfl) ?_
    show u_P L xs n d m_X12_canGo 12 [(0, .ref 100), (1, .int g), (2, .int k)] [.int k, .ref 157] S R _
    refine u_baldE (v := S 156 k.toInt.toNat) rfl rfl (by decide) rfl (fun b21 b22 => ?_)
    show u_P L xs n d m_X12_canGo 13 [(0, .ref 100), (1, .int g), (2, .int k)] [.int (S 156 k.toInt.toNat)] S R _
    refine u_if_eq rfl (fun h3 => ?_) (fun h3 => ?_)
    · show u_P L xs n d m_X12_canGo 26 [(0, .ref 100), (1, .int g), (2, .int k)] [] S R _
      refine u_st rfl (fun _ => rfl) ?_
      show u_P L xs n d m_X12_canGo 27 [(0, .ref 100), (1, .int g), (2, .int k)] [.int (Int32.ofInt 0)] S R _
      exact u_retb rfl rfl ⟨_, rfl, rfl, by rw [f_X12_canGo, if_pos h1, if_pos h3], rfl⟩
    · show u_P L xs n d m_X12_canGo 16 [(0, .ref 100), (1, .int g), (2, .int k)] [] S R _
      refine u_st rfl (fun _ => rfl) ?_
      show u_P L xs n d m_X12_canGo 17 [(0, .ref 100), (1, .int g), (2, .int k)] [.ref 100] S R _
      refine u_getr rfl v_tyM rfl ?_
      refine u_st rfl (fun _ => rfl) ?_
      show u_P L xs n d m_X12_canGo 21 [(0, .ref 100), (1, .int g), (2, .int k)] [.int g, .ref 119] S R _
      refine u_ialdE (v := S 118 g.toInt.toNat) rfl rfl rfl (fun b41 b42 => ?_)
      refine u_st rfl (fun _ => rfl) ?_
      show u_P L xs n d m_X12_canGo 23 [(0, .ref 100), (1, .int g), (2, .int k)] [.int (Int32.ofInt (-1)), .int (S 118 g.toInt.toNat)] S R _
      refine u_ic_ne rfl (fun h5 => ?_) (fun h5 => ?_)
      · show u_P L xs n d m_X12_canGo 28 [(0, .ref 100), (1, .int g), (2, .int k)] [] S R _
        refine u_st rfl (fun _ => rfl) ?_
        show u_P L xs n d m_X12_canGo 29 [(0, .ref 100), (1, .int g), (2, .int k)] [.ref 100] S R _
        refine u_getr rfl v_tyM rfl ?_
        refine u_st rfl (fun _ => rfl) ?_
        show u_P L xs n d m_X12_canGo 33 [(0, .ref 100), (1, .int g), (2, .int k)] [.int k, .ref 158] S R _
        refine u_ialdE (v := S 157 k.toInt.toNat) rfl rfl rfl (fun b61 b62 => ?_)
        refine u_st rfl (fun _ => rfl) ?_
        show u_P L xs n d m_X12_canGo 35 [(0, .ref 100), (1, .int g), (2, .int k)] [.ref 100, .int (S 157 k.toInt.toNat)] S R _
        refine u_getr rfl v_tyM rfl ?_
        refine u_st rfl (fun _ => rfl) ?_
        show u_P L xs n d m_X12_canGo 39 [(0, .ref 100), (1, .int g), (2, .int k)] [.int g, .ref 119, .int (S 157 k.toInt.toNat)] S R _
        refine u_ialdE (v := S 118 g.toInt.toNat) rfl rfl rfl (fun b71 b72 => ?_)
        refine u_st rfl (fun _ => rfl) ?_
        refine u_st rfl (fun _ => rfl) ?_
        refine u_st rfl (fun _ => rfl) ?_
        refine u_st rfl (fun _ => rfl) ?_
        show u_P L xs n d m_X12_canGo 46 [(0, .ref 100), (1, .int g), (2, .int k)] [.int (Int32.ofInt 8), .int (((S 157 k.toInt.toNat) - (S 118 g.toInt.toNat)) + (Int32.ofInt 8))] S R _
        refine u_irem rfl (fun b8 => ?_)
        refine u_st rfl (fun _ => rfl) ?_
        refine u_st rfl (fun _ => rfl) ?_
        show u_P L xs n d m_X12_canGo 49 [(3, .int ((((S 157 k.toInt.toNat) - (S 118 g.toInt.toNat)) + (Int32.ofInt 8)) - (((S 157 k.toInt.toNat) - (S 118 g.toInt.toNat)) + (Int32.ofInt 8)) / (Int32.ofInt 8) * (Int32.ofInt 8))), (0, .ref 100), (1, .int g), (2, .int k)] [.int ((((S 157 k.toInt.toNat) - (S 118 g.toInt.toNat)) + (Int32.ofInt 8)) - (((S 157 k.toInt.toNat) - (S 118 g.toInt.toNat)) + (Int32.ofInt 8)) / (Int32.ofInt 8) * (Int32.ofInt 8))] S R _
        refine u_if_eq rfl (fun h9 => ?_) (fun h9 => ?_)
        · show u_P L xs n d m_X12_canGo 63 [(3, .int ((((S 157 k.toInt.toNat) - (S 118 g.toInt.toNat)) + (Int32.ofInt 8)) - (((S 157 k.toInt.toNat) - (S 118 g.toInt.toNat)) + (Int32.ofInt 8)) / (Int32.ofInt 8) * (Int32.ofInt 8))), (0, .ref 100), (1, .int g), (2, .int k)] [] S R _
          refine u_st rfl (fun _ => rfl) ?_
          refine u_st rfl (fun _ => rfl) ?_
          show u_P L xs n d m_X12_canGo 68 [(3, .int ((((S 157 k.toInt.toNat) - (S 118 g.toInt.toNat)) + (Int32.ofInt 8)) - (((S 157 k.toInt.toNat) - (S 118 g.toInt.toNat)) + (Int32.ofInt 8)) / (Int32.ofInt 8) * (Int32.ofInt 8))), (0, .ref 100), (1, .int g), (2, .int k)] [.int (Int32.ofInt 1)] S R _
          exact u_retb rfl rfl ⟨_, rfl, rfl, by rw [f_X12_canGo, if_pos h1, if_neg h3, if_pos h5, if_pos h9], rfl⟩
        · show u_P L xs n d m_X12_canGo 52 [(3, .int ((((S 157 k.toInt.toNat) - (S 118 g.toInt.toNat)) + (Int32.ofInt 8)) - (((S 157 k.toInt.toNat) - (S 118 g.toInt.toNat)) + (Int32.ofInt 8)) / (Int32.ofInt 8) * (Int32.ofInt 8))), (0, .ref 100), (1, .int g), (2, .int k)] [] S R _
          refine u_st rfl (fun _ => rfl) ?_
          refine u_st rfl (fun _ => rfl) ?_
          show u_P L xs n d m_X12_canGo 54 [(3, .int ((((S 157 k.toInt.toNat) - (S 118 g.toInt.toNat)) + (Int32.ofInt 8)) - (((S 157 k.toInt.toNat) - (S 118 g.toInt.toNat)) + (Int32.ofInt 8)) / (Int32.ofInt 8) * (Int32.ofInt 8))), (0, .ref 100), (1, .int g), (2, .int k)] [.int (Int32.ofInt 1), .int ((((S 157 k.toInt.toNat) - (S 118 g.toInt.toNat)) + (Int32.ofInt 8)) - (((S 157 k.toInt.toNat) - (S 118 g.toInt.toNat)) + (Int32.ofInt 8)) / (Int32.ofInt 8) * (Int32.ofInt 8))] S R _
          refine u_ic_eq rfl (fun h10 => ?_) (fun h10 => ?_)
          · show u_P L xs n d m_X12_canGo 63 [(3, .int ((((S 157 k.toInt.toNat) - (S 118 g.toInt.toNat)) + (Int32.ofInt 8)) - (((S 157 k.toInt.toNat) - (S 118 g.toInt.toNat)) + (Int32.ofInt 8)) / (Int32.ofInt 8) * (Int32.ofInt 8))), (0, .ref 100), (1, .int g), (2, .int k)] [] S R _
            refine u_st rfl (fun _ => rfl) ?_
            refine u_st rfl (fun _ => rfl) ?_
            show u_P L xs n d m_X12_canGo 68 [(3, .int ((((S 157 k.toInt.toNat) - (S 118 g.toInt.toNat)) + (Int32.ofInt 8)) - (((S 157 k.toInt.toNat) - (S 118 g.toInt.toNat)) + (Int32.ofInt 8)) / (Int32.ofInt 8) * (Int32.ofInt 8))), (0, .ref 100), (1, .int g), (2, .int k)] [.int (Int32.ofInt 1)] S R _
            exact u_retb rfl rfl ⟨_, rfl, rfl, by rw [f_X12_canGo, if_pos h1, if_neg h3, if_pos h5, if_neg h9, if_pos h10], rfl⟩
          · show u_P L xs n d m_X12_canGo 57 [(3, .int ((((S 157 k.toInt.toNat) - (S 118 g.toInt.toNat)) + (Int32.ofInt 8)) - (((S 157 k.toInt.toNat) - (S 118 g.toInt.toNat)) + (Int32.ofInt 8)) / (Int32.ofInt 8) * (Int32.ofInt 8))), (0, .ref 100), (1, .int g), (2, .int k)] [] S R _
            refine u_st rfl (fun _ => rfl) ?_
            refine u_st rfl (fun _ => rfl) ?_
            show u_P L xs n d m_X12_canGo 60 [(3, .int ((((S 157 k.toInt.toNat) - (S 118 g.toInt.toNat)) + (Int32.ofInt 8)) - (((S 157 k.toInt.toNat) - (S 118 g.toInt.toNat)) + (Int32.ofInt 8)) / (Int32.ofInt 8) * (Int32.ofInt 8))), (0, .ref 100), (1, .int g), (2, .int k)] [.int (Int32.ofInt 7), .int ((((S 157 k.toInt.toNat) - (S 118 g.toInt.toNat)) + (Int32.ofInt 8)) - (((S 157 k.toInt.toNat) - (S 118 g.toInt.toNat)) + (Int32.ofInt 8)) / (Int32.ofInt 8) * (Int32.ofInt 8))] S R _
            refine u_ic_ne rfl (fun h11 => ?_) (fun h11 => ?_)
            · show u_P L xs n d m_X12_canGo 67 [(3, .int ((((S 157 k.toInt.toNat) - (S 118 g.toInt.toNat)) + (Int32.ofInt 8)) - (((S 157 k.toInt.toNat) - (S 118 g.toInt.toNat)) + (Int32.ofInt 8)) / (Int32.ofInt 8) * (Int32.ofInt 8))), (0, .ref 100), (1, .int g), (2, .int k)] [] S R _
              refine u_st rfl (fun _ => rfl) ?_
              show u_P L xs n d m_X12_canGo 68 [(3, .int ((((S 157 k.toInt.toNat) - (S 118 g.toInt.toNat)) + (Int32.ofInt 8)) - (((S 157 k.toInt.toNat) - (S 118 g.toInt.toNat)) + (Int32.ofInt 8)) / (Int32.ofInt 8) * (Int32.ofInt 8))), (0, .ref 100), (1, .int g), (2, .int k)] [.int (Int32.ofInt 0)] S R _
              exact u_retb rfl rfl ⟨_, rfl, rfl, by rw [f_X12_canGo, if_pos h1, if_neg h3, if_pos h5, if_neg h9, if_neg h10, if_pos h11], rfl⟩
            · show u_P L xs n d m_X12_canGo 63 [(3, .int ((((S 157 k.toInt.toNat) - (S 118 g.toInt.toNat)) + (Int32.ofInt 8)) - (((S 157 k.toInt.toNat) - (S 118 g.toInt.toNat)) + (Int32.ofInt 8)) / (Int32.ofInt 8) * (Int32.ofInt 8))), (0, .ref 100), (1, .int g), (2, .int k)] [] S R _
              refine u_st rfl (fun _ => rfl) ?_
              refine u_st rfl (fun _ => rfl) ?_
              show u_P L xs n d m_X12_canGo 68 [(3, .int ((((S 157 k.toInt.toNat) - (S 118 g.toInt.toNat)) + (Int32.ofInt 8)) - (((S 157 k.toInt.toNat) - (S 118 g.toInt.toNat)) + (Int32.ofInt 8)) / (Int32.ofInt 8) * (Int32.ofInt 8))), (0, .ref 100), (1, .int g), (2, .int k)] [.int (Int32.ofInt 1)] S R _
              exact u_retb rfl rfl ⟨_, rfl, rfl, by rw [f_X12_canGo, if_pos h1, if_neg h3, if_pos h5, if_neg h9, if_neg h10, if_neg h11], rfl⟩
      · show u_P L xs n d m_X12_canGo 26 [(0, .ref 100), (1, .int g), (2, .int k)] [] S R _
        refine u_st rfl (fun _ => rfl) ?_
        show u_P L xs n d m_X12_canGo 27 [(0, .ref 100), (1, .int g), (2, .int k)] [.int (Int32.ofInt 0)] S R _
        exact u_retb rfl rfl ⟨_, rfl, rfl, by rw [f_X12_canGo, if_pos h1, if_neg h3, if_neg h5], rfl⟩
  · show u_P L xs n d m_X12_canGo 5 [(0, .ref 100), (1, .int g), (2, .int k)] [] S R _
    refine u_st rfl (fun _ => rfl) ?_
    show u_P L xs n d m_X12_canGo 6 [(0, .ref 100), (1, .int g), (2, .int k)] [.int (Int32.ofInt 1)] S R _
    exact u_retb rfl rfl ⟨_, rfl, rfl, by rw [f_X12_canGo, if_neg h1], rfl⟩
noncomputable abbrev m_X12_orLess : g_M := (g_cn 12, yX12_orLess, cX12_orLess, 1, (some .int), g_look2 ttX12_orLess)
set_option maxRecDepth 20000 in
theorem mt_X12_orLess : g_mt 242 = some m_X12_orLess := rfl
noncomputable def f_X12_orLess (a : Int32) : Int32 := (if ¬ a = (Int32.ofInt (-1)) then a else Int32.ofInt (-2))
set_option maxRecDepth 4000 in
theorem c_X12_orLess (L : Nat) (xs : Nat → Int32) (n d : Nat) (a : Int32) (S : v_Sf) (R : v_Rf) : u_P L xs n d m_X12_orLess 0 (lv_args 0 [.int a]) [] S R (z_Q R (fun v S1 => f_X12_orLess a = v ∧ S = S1)) := by
  show u_P L xs n d m_X12_orLess 0 [(0, .int a)] [] S R _
  refine u_st rfl (fun _ => rfl) ?_
  refine u_st rfl (fun _ => rfl) ?_
  show u_P L xs n d m_X12_orLess 2 [(0, .int a)] [.int (Int32.ofInt (-1)), .int a] S R _
  refine u_ic_ne rfl (fun h1 => ?_) (fun h1 => ?_)
  · show u_P L xs n d m_X12_orLess 10 [(0, .int a)] [] S R _
    refine u_st rfl (fun _ => rfl) ?_
    show u_P L xs n d m_X12_orLess 11 [(0, .int a)] [.int a] S R _
    exact u_ret rfl rfl ⟨_, rfl, rfl, by rw [f_X12_orLess, if_pos h1], rfl⟩
  · show u_P L xs n d m_X12_orLess 5 [(0, .int a)] [] S R _
    refine u_st rfl (fun _ => rfl) ?_
    refine u_st rfl (fun _ => rfl) ?_
    show u_P L xs n d m_X12_orLess 11 [(0, .int a)] [.int (Int32.ofInt (-2))] S R _
    exact u_ret rfl rfl ⟨_, rfl, rfl, by rw [f_X12_orLess, if_neg h1], rfl⟩
noncomputable abbrev m_X12_gustIs : g_M := (g_cn 12, yX12_gustIs, cX12_gustIs, 3, (some .int), g_look2 ttX12_gustIs)
set_option maxRecDepth 20000 in
theorem mt_X12_gustIs : g_mt 243 = some m_X12_gustIs := rfl
noncomputable def f_X12_gustIs (g : Int32) (a : Int32) (S : v_Sf) : Int32 := (if ¬ (f_X12_isTold g S) = 0 then (if a = Int32.ofInt 0 then S 117 g.toInt.toNat else (if a = Int32.ofInt 1 then f_X12_orLess (S 118 g.toInt.toNat) else (if a = Int32.ofInt 2 then S 119 g.toInt.toNat else (if a = Int32.ofInt 3 then S 120 g.toInt.toNat else (if a = Int32.ofInt 4 then S 121 g.toInt.toNat else (if a = Int32.ofInt 5 then S 122 g.toInt.toNat else Int32.ofInt (-1))))))) else Int32.ofInt (-1))
set_option maxRecDepth 4000 in
theorem c_X12_gustIs (L : Nat) (xs : Nat → Int32) (n d : Nat) (g : Int32) (a : Int32) (S : v_Sf) (R : v_Rf) : u_P L xs n d m_X12_gustIs 0 (lv_args 0 [.ref 100, .int g, .int a]) [] S R (z_Q R (fun v S1 => f_X12_gustIs g a S = v ∧ S = S1)) := by
  show u_P L xs n d m_X12_gustIs 0 [(0, .ref 100), (1, .int g), (2, .int a)] [] S R _
  refine u_st rfl (fun _ => rfl) ?_
  refine u_st rfl (fun _ => rfl) ?_
  show u_P L xs n d m_X12_gustIs 2 [(0, .ref 100), (1, .int g), (2, .int a)] [.int g, .ref 100] S R _
  refine u_cv (rest := []) rfl (by decide) mt_X12_isTold v_tyM rfl rfl rfl (Nat.le_of_ble_eq_true rfl) (Nat.le_of_ble_eq_true rfl) (Nat.le_of_ble_eq_true rfl) (fun d' => c_X12_isTold L xs n d' g S R) ?_
  rintro _ _ _ ⟨_, rfl, rfl, rfl, rfl⟩
  show u_P L xs n d m_X12_gustIs 5 [(0, .ref 100), (1, .int g), (2, .int a)] [.int (f_X12_isTold g S)] S R _
  refine u_if_ne rfl (fun h1 => ?_) (fun h1 => ?_)
  · show u_P L xs n d m_X12_gustIs 10 [(0, .ref 100), (1, .int g), (2, .int a)] [] S R _
    refine u_st rfl (fun _ => rfl) ?_
    show u_P L xs n d m_X12_gustIs 11 [(0, .ref 100), (1, .int g), (2, .int a)] [.int a] S R _
    by_cases h2_0 : a = Int32.ofInt 0
    · refine u_jm (t := 48) (sc1 := []) rfl rfl rfl (by rw [h2_0]; rfl) ?_
      show u_P L xs n d m_X12_gustIs 48 [(0, .ref 100), (1, .int g), (2, .int a)] [] S R _
      refine u_st rfl (fun _ => rfl) ?_
      show u_P L xs n d m_X12_gustIs 49 [(0, .ref 100), (1, .int g), (2, .int a)] [.ref 100] S R _
      refine u_getr rfl v_tyM rfl ?_
      refine u_st rfl (fun _ => rfl) ?_
      show u_P L xs n d m_X12_gustIs 53 [(0, .ref 100), (1, .int g), (2, .int a)] [.int g, .ref 118] S R _
      refine u_ialdE (v := S 117 g.toInt.toNat) rfl rfl rfl (fun b31 b32 => ?_)
      show u_P L xs n d m_X12_gustIs 54 [(0, .ref 100), (1, .int g), (2, .int a)] [.int (S 117 g.toInt.toNat)] S R _
      exact u_ret rfl rfl ⟨_, rfl, rfl, by rw [f_X12_gustIs, if_pos h1, if_pos h2_0], rfl⟩
    · by_cases h2_1 : a = Int32.ofInt 1
      · refine u_jm (t := 55) (sc1 := []) rfl rfl rfl (by rw [h2_1]; rfl) ?_
        show u_P L xs n d m_X12_gustIs 55 [(0, .ref 100), (1, .int g), (2, .int a)] [] S R _
        refine u_st rfl (fun _ => rfl) ?_
        show u_P L xs n d m_X12_gustIs 56 [(0, .ref 100), (1, .int g), (2, .int a)] [.ref 100] S R _
        refine u_getr rfl v_tyM rfl ?_
        refine u_st rfl (fun _ => rfl) ?_
        show u_P L xs n d m_X12_gustIs 60 [(0, .ref 100), (1, .int g), (2, .int a)] [.int g, .ref 119] S R _
        refine u_ialdE (v := S 118 g.toInt.toNat) rfl rfl rfl (fun b41 b42 => ?_)
        show u_P L xs n d m_X12_gustIs 61 [(0, .ref 100), (1, .int g), (2, .int a)] [.int (S 118 g.toInt.toNat)] S R _
        refine u_cs (ac := [.int (S 118 g.toInt.toNat)]) (rest := []) rfl (by decide) mt_X12_orLess (fun _ => rfl) (Nat.le_of_ble_eq_true rfl) (Nat.le_of_ble_eq_true rfl) (fun d' => c_X12_orLess L xs n d' (S 118 g.toInt.toNat) S R) ?_
        rintro _ _ _ ⟨_, rfl, rfl, rfl, rfl⟩
        show u_P L xs n d m_X12_gustIs 64 [(0, .ref 100), (1, .int g), (2, .int a)] [.int (f_X12_orLess (S 118 g.toInt.toNat))] S R _
        exact u_ret rfl rfl ⟨_, rfl, rfl, by rw [f_X12_gustIs, if_pos h1, if_neg h2_0, if_pos h2_1], rfl⟩
      · by_cases h2_2 : a = Int32.ofInt 2
        · refine u_jm (t := 65) (sc1 := []) rfl rfl rfl (by rw [h2_2]; rfl) ?_
          show u_P L xs n d m_X12_gustIs 65 [(0, .ref 100), (1, .int g), (2, .int a)] [] S R _
          refine u_st rfl (fun _ => rfl) ?_
          show u_P L xs n d m_X12_gustIs 66 [(0, .ref 100), (1, .int g), (2, .int a)] [.ref 100] S R _
          refine u_getr rfl v_tyM rfl ?_
          refine u_st rfl (fun _ => rfl) ?_
          show u_P L xs n d m_X12_gustIs 70 [(0, .ref 100), (1, .int g), (2, .int a)] [.int g, .ref 120] S R _
          refine u_ialdE (v := S 119 g.toInt.toNat) rfl rfl rfl (fun b51 b52 => ?_)
          show u_P L xs n d m_X12_gustIs 71 [(0, .ref 100), (1, .int g), (2, .int a)] [.int (S 119 g.toInt.toNat)] S R _
          exact u_ret rfl rfl ⟨_, rfl, rfl, by rw [f_X12_gustIs, if_pos h1, if_neg h2_0, if_neg h2_1, if_pos h2_2], rfl⟩
        · by_cases h2_3 : a = Int32.ofInt 3
          · refine u_jm (t := 72) (sc1 := []) rfl rfl rfl (by rw [h2_3]; rfl) ?_
            show u_P L xs n d m_X12_gustIs 72 [(0, .ref 100), (1, .int g), (2, .int a)] [] S R _
            refine u_st rfl (fun _ => rfl) ?_
            show u_P L xs n d m_X12_gustIs 73 [(0, .ref 100), (1, .int g), (2, .int a)] [.ref 100] S R _
            refine u_getr rfl v_tyM rfl ?_
            refine u_st rfl (fun _ => rfl) ?_
            show u_P L xs n d m_X12_gustIs 77 [(0, .ref 100), (1, .int g), (2, .int a)] [.int g, .ref 121] S R _
            refine u_ialdE (v := S 120 g.toInt.toNat) rfl rfl rfl (fun b61 b62 => ?_)
            show u_P L xs n d m_X12_gustIs 78 [(0, .ref 100), (1, .int g), (2, .int a)] [.int (S 120 g.toInt.toNat)] S R _
            exact u_ret rfl rfl ⟨_, rfl, rfl, by rw [f_X12_gustIs, if_pos h1, if_neg h2_0, if_neg h2_1, if_neg h2_2, if_pos h2_3], rfl⟩
          · by_cases h2_4 : a = Int32.ofInt 4
            · refine u_jm (t := 79) (sc1 := []) rfl rfl rfl (by rw [h2_4]; rfl) ?_
              show u_P L xs n d m_X12_gustIs 79 [(0, .ref 100), (1, .int g), (2, .int a)] [] S R _
              refine u_st rfl (fun _ => rfl) ?_
              show u_P L xs n d m_X12_gustIs 80 [(0, .ref 100), (1, .int g), (2, .int a)] [.ref 100] S R _
              refine u_getr rfl v_tyM rfl ?_
              refine u_st rfl (fun _ => rfl) ?_
              show u_P L xs n d m_X12_gustIs 84 [(0, .ref 100), (1, .int g), (2, .int a)] [.int g, .ref 122] S R _
              refine u_ialdE (v := S 121 g.toInt.toNat) rfl rfl rfl (fun b71 b72 => ?_)
              show u_P L xs n d m_X12_gustIs 85 [(0, .ref 100), (1, .int g), (2, .int a)] [.int (S 121 g.toInt.toNat)] S R _
              exact u_ret rfl rfl ⟨_, rfl, rfl, by rw [f_X12_gustIs, if_pos h1, if_neg h2_0, if_neg h2_1, if_neg h2_2, if_neg h2_3, if_pos h2_4], rfl⟩
            · by_cases h2_5 : a = Int32.ofInt 5
              · refine u_jm (t := 86) (sc1 := []) rfl rfl rfl (by rw [h2_5]; rfl) ?_
                show u_P L xs n d m_X12_gustIs 86 [(0, .ref 100), (1, .int g), (2, .int a)] [] S R _
                refine u_st rfl (fun _ => rfl) ?_
                show u_P L xs n d m_X12_gustIs 87 [(0, .ref 100), (1, .int g), (2, .int a)] [.ref 100] S R _
                refine u_getr rfl v_tyM rfl ?_
                refine u_st rfl (fun _ => rfl) ?_
                show u_P L xs n d m_X12_gustIs 91 [(0, .ref 100), (1, .int g), (2, .int a)] [.int g, .ref 123] S R _
                refine u_ialdE (v := S 122 g.toInt.toNat) rfl rfl rfl (fun b81 b82 => ?_)
                show u_P L xs n d m_X12_gustIs 92 [(0, .ref 100), (1, .int g), (2, .int a)] [.int (S 122 g.toInt.toNat)] S R _
                exact u_ret rfl rfl ⟨_, rfl, rfl, by rw [f_X12_gustIs, if_pos h1, if_neg h2_0, if_neg h2_1, if_neg h2_2, if_neg h2_3, if_neg h2_4, if_pos h2_5], rfl⟩
              · refine u_jm (t := 93) (sc1 := []) rfl rfl rfl (by rw [g_jmp]; rw [if_pos (by have := z_ne h2_0; have := z_ne h2_1; have := z_ne h2_2; have := z_ne h2_3; have := z_ne h2_4; have := z_ne h2_5; omega)]; rfl) ?_
                show u_P L xs n d m_X12_gustIs 93 [(0, .ref 100), (1, .int g), (2, .int a)] [] S R _
                refine u_st rfl (fun _ => rfl) ?_
                show u_P L xs n d m_X12_gustIs 94 [(0, .ref 100), (1, .int g), (2, .int a)] [.int (Int32.ofInt (-1))] S R _
                exact u_ret rfl rfl ⟨_, rfl, rfl, by rw [f_X12_gustIs, if_pos h1, if_neg h2_0, if_neg h2_1, if_neg h2_2, if_neg h2_3, if_neg h2_4, if_neg h2_5], rfl⟩
  · show u_P L xs n d m_X12_gustIs 8 [(0, .ref 100), (1, .int g), (2, .int a)] [] S R _
    refine u_st rfl (fun _ => rfl) ?_
    show u_P L xs n d m_X12_gustIs 9 [(0, .ref 100), (1, .int g), (2, .int a)] [.int (Int32.ofInt (-1))] S R _
    exact u_ret rfl rfl ⟨_, rfl, rfl, by rw [f_X12_gustIs, if_neg h1], rfl⟩
noncomputable abbrev m_X12_nurseIs : g_M := (g_cn 12, yX12_nurseIs, cX12_nurseIs, 3, (some .int), g_look2 ttX12_nurseIs)
set_option maxRecDepth 20000 in
theorem mt_X12_nurseIs : g_mt 247 = some m_X12_nurseIs := rfl
noncomputable def f_X12_nurseIs (k : Int32) (a : Int32) (S : v_Sf) : Int32 := (if (f_X12_isThere k S) = 0 then Int32.ofInt (-1) else (if (z_in a 0 1) = 0 then Int32.ofInt (-1) else (if ¬ a = 0 then S 131 k.toInt.toNat else S 130 k.toInt.toNat)))
set_option maxRecDepth 4000 in
theorem c_X12_nurseIs (L : Nat) (xs : Nat → Int32) (n d : Nat) (k : Int32) (a : Int32) (S : v_Sf) (R : v_Rf) : u_P L xs n d m_X12_nurseIs 0 (lv_args 0 [.ref 100, .int k, .int a]) [] S R (z_Q R (fun v S1 => f_X12_nurseIs k a S = v ∧ S = S1)) := by
  show u_P L xs n d m_X12_nurseIs 0 [(0, .ref 100), (1, .int k), (2, .int a)] [] S R _
  refine u_st rfl (fun _ => rfl) ?_
  refine u_st rfl (fun _ => rfl) ?_
  show u_P L xs n d m_X12_nurseIs 2 [(0, .ref 100), (1, .int k), (2, .int a)] [.int k, .ref 100] S R _
  refine u_cv (rest := []) rfl (by decide) mt_X12_isThere v_tyM rfl rfl rfl (Nat.le_of_ble_eq_true rfl) (Nat.le_of_ble_eq_true rfl) (Nat.le_of_ble_eq_true rfl) (fun d' => c_X12_isThere L xs n d' k S R) ?_
  rintro _ _ _ ⟨_, rfl, rfl, rfl, rfl⟩
  show u_P L xs n d m_X12_nurseIs 5 [(0, .ref 100), (1, .int k), (2, .int a)] [.int (f_X12_isThere k S)] S R _
  refine u_if_eq rfl (fun h1 => ?_) (fun h1 => ?_)
  · show u_P L xs n d m_X12_nurseIs 40 [(0, .ref 100), (1, .int k), (2, .int a)] [] S R _
    refine u_st rfl (fun _ => rfl) ?_
    show u_P L xs n d m_X12_nurseIs 41 [(0, .ref 100), (1, .int k), (2, .int a)] [.int (Int32.ofInt (-1))] S R _
    exact u_ret rfl rfl ⟨_, rfl, rfl, by rw [f_X12_nurseIs, if_pos h1], rfl⟩
  · show u_P L xs n d m_X12_nurseIs 8 [(0, .ref 100), (1, .int k), (2, .int a)] [] S R _
    refine u_st rfl (fun _ => rfl) ?_
    refine u_st rfl (fun _ => rfl) ?_
    refine u_st rfl (fun _ => rfl) ?_
    refine u_st rfl (fun _ => rfl) ?_
    show u_P L xs n d m_X12_nurseIs 12 [(0, .ref 100), (1, .int k), (2, .int a)] [.long (Int64.ofNat 1), .long (Int64.ofNat 0), .long a.toInt64] S R _
    refine u_cs (ac := [.long a.toInt64, .long (Int64.ofNat 0), .long (Int64.ofNat 1)]) (rest := []) rfl (by decide) mt_X12_lies (fun _ => rfl) (Nat.le_of_ble_eq_true rfl) (Nat.le_of_ble_eq_true rfl) (fun d' => z_liesC L xs n d' a (Int64.ofNat 0) (Int64.ofNat 1) (lo := 0) (hi := 1) rfl rfl S R) ?_
    rintro _ _ _ ⟨_, rfl, rfl, rfl, rfl⟩
    show u_P L xs n d m_X12_nurseIs 15 [(0, .ref 100), (1, .int k), (2, .int a)] [.int (z_in a 0 1)] S R _
    refine u_if_eq rfl (fun h2 => ?_) (fun h2 => ?_)
    · show u_P L xs n d m_X12_nurseIs 40 [(0, .ref 100), (1, .int k), (2, .int a)] [] S R _
      refine u_st rfl (fun _ => rfl) ?_
      show u_P L xs n d m_X12_nurseIs 41 [(0, .ref 100), (1, .int k), (2, .int a)] [.int (Int32.ofInt (-1))] S R _
      exact u_ret rfl rfl ⟨_, rfl, rfl, by rw [f_X12_nurseIs, if_neg h1, if_pos h2], rfl⟩
    · show u_P L xs n d m_X12_nurseIs 18 [(0, .ref 100), (1, .int k), (2, .int a)] [] S R _
      refine u_st rfl (fun _ => rfl) ?_
      show u_P L xs n d m_X12_nurseIs 19 [(0, .ref 100), (1, .int k), (2, .int a)] [.int a] S R _
      refine u_if_ne rfl (fun h3 => ?_) (fun h3 => ?_)
      · show u_P L xs n d m_X12_nurseIs 31 [(0, .ref 100), (1, .int k), (2, .int a)] [] S R _
        refine u_st rfl (fun _ => rfl) ?_
        show u_P L xs n d m_X12_nurseIs 32 [(0, .ref 100), (1, .int k), (2, .int a)] [.ref 100] S R _
        refine u_getr rfl v_tyM rfl ?_
        refine u_st rfl (fun _ => rfl) ?_
        show u_P L xs n d m_X12_nurseIs 36 [(0, .ref 100), (1, .int k), (2, .int a)] [.int k, .ref 132] S R _
        refine u_ialdE (v := S 131 k.toInt.toNat) rfl rfl rfl (fun b41 b42 => ?_)
        refine u_st rfl (fun _ => rfl) ?_
        show u_P L xs n d m_X12_nurseIs 41 [(0, .ref 100), (1, .int k), (2, .int a)] [.int (S 131 k.toInt.toNat)] S R _
        exact u_ret rfl rfl ⟨_, rfl, rfl, by rw [f_X12_nurseIs, if_neg h1, if_neg h2, if_pos h3], rfl⟩
      · show u_P L xs n d m_X12_nurseIs 22 [(0, .ref 100), (1, .int k), (2, .int a)] [] S R _
        refine u_st rfl (fun _ => rfl) ?_
        show u_P L xs n d m_X12_nurseIs 23 [(0, .ref 100), (1, .int k), (2, .int a)] [.ref 100] S R _
        refine u_getr rfl v_tyM rfl ?_
        refine u_st rfl (fun _ => rfl) ?_
        show u_P L xs n d m_X12_nurseIs 27 [(0, .ref 100), (1, .int k), (2, .int a)] [.int k, .ref 131] S R _
        refine u_ialdE (v := S 130 k.toInt.toNat) rfl rfl rfl (fun b51 b52 => ?_)
        refine u_st rfl (fun _ => rfl) ?_
        show u_P L xs n d m_X12_nurseIs 41 [(0, .ref 100), (1, .int k), (2, .int a)] [.int (S 130 k.toInt.toNat)] S R _
        exact u_ret rfl rfl ⟨_, rfl, rfl, by rw [f_X12_nurseIs, if_neg h1, if_neg h2, if_neg h3], rfl⟩
end PrtS42d
