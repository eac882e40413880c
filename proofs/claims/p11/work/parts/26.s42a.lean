section PrtS42a
/-! partial roads: what holds of a run if it ends (that it ends, and is safe, the rows v_met say) -/
noncomputable def u_P (L : Nat) (xs : Nat → Int32) (n d : Nat) (M : g_M) (pc : Nat) (lc : g_Lc) (sc : List Value) (S : v_Sf) (R : v_Rf) (Q : Option Value → v_Sf → v_Rf → Prop) : Prop := ∀ r σ, g_run g_mt L xs n d M pc lc sc (v_mk v_ty S R) = some (r, σ) → ∃ S' R', σ = v_mk v_ty S' R' ∧ Q r S' R'
set_option maxRecDepth 20000 in
theorem g_mt_big {k : Nat} (h : 301 ≤ k) : g_mt k = none := by
  have e : g_ml.length = 301 := rfl
  unfold g_mt
  cases Nat.beq k 0 with
  | true => rfl
  | false =>
    rw [cond_false]
    exact List.getElem?_eq_none (by omega)
theorem u_outT {w : Int32} {n : Nat} (h : ¬ (0 ≤ w.toInt ∧ w.toInt < (n : Int))) : g_out w n = true := by
  unfold g_out
  rw [decide_eq_true_iff]
  by_cases h0 : w < 0
  · exact Or.inl h0
  · refine Or.inr ?_
    rw [q_lt32] at h0
    have e : (0 : Int32).toInt = 0 := rfl
    have e2 : w.toNatClampNeg = w.toInt.toNat := rfl
    rw [e2]
    omega
section UPA
variable {L : Nat} {xs : Nat → Int32} {n d : Nat} {M : g_M} {pc : Nat} {lc : g_Lc} {sc : List Value} {S : v_Sf} {R : v_Rf} {Q : Option Value → v_Sf → v_Rf → Prop}
theorem u_zero : u_P L xs 0 d M pc lc sc S R Q := by
  intro r σ h
  have h' : (none : Option (Option Value × List g_Ce)) = some (r, σ) := h
  cases h'
theorem u_le {m : Nat} (hm : m ≤ n) (k : u_P L xs n d M pc lc sc S R Q) : u_P L xs m d M pc lc sc S R Q := by
  intro r σ h
  have h2 := g_run_m L xs (n - m) h
  rw [show m + (n - m) = n by omega] at h2
  exact k r σ h2
theorem u_mono {Q' : Option Value → v_Sf → v_Rf → Prop} (h : u_P L xs n d M pc lc sc S R Q) (k : ∀ r S1 R1, Q r S1 R1 → Q' r S1 R1) : u_P L xs n d M pc lc sc S R Q' := by
  intro r σ h2
  obtain ⟨S', R', e, q⟩ := h r σ h2
  exact ⟨S', R', e, k _ _ _ q⟩
theorem u_one1 {en : g_En} {pc1 : Nat} {lc1 : g_Lc} {sc1 : List Value} {S1 : v_Sf} {R1 : v_Rf} (hen : M.2.2.2.2.2 pc = some en) (hs : g_step d M.2.2.2.1 L xs en pc lc sc (v_mk v_ty S R) = some (pc1, lc1, sc1, v_mk v_ty S1 R1)) (k : u_P L xs n d M pc1 lc1 sc1 S1 R1 Q) : u_P L xs (n + 1) d M pc lc sc S R Q := by
  intro r σ h
  rw [g_run_step hen hs] at h
  exact k r σ h
theorem u_one {en : g_En} {pc1 : Nat} {lc1 : g_Lc} {sc1 : List Value} {S1 : v_Sf} {R1 : v_Rf} (hen : M.2.2.2.2.2 pc = some en) (hs : g_step d M.2.2.2.1 L xs en pc lc sc (v_mk v_ty S R) = some (pc1, lc1, sc1, v_mk v_ty S1 R1)) (k : u_P L xs n d M pc1 lc1 sc1 S1 R1 Q) : u_P L xs n d M pc lc sc S R Q := u_le (Nat.le_succ n) (u_one1 hen hs k)
theorem u_st {en : g_En} {pc1 : Nat} {lc1 : g_Lc} {sc1 : List Value} (hen : M.2.2.2.2.2 pc = some en) (hs : ∀ σ, g_step d M.2.2.2.1 L xs en pc lc sc σ = some (pc1, lc1, sc1, σ)) (k : u_P L xs n d M pc1 lc1 sc1 S R Q) : u_P L xs n d M pc lc sc S R Q := u_one hen (hs _) k
/-- the first instruction of a head: the counter goes down -/
theorem u_st1 {en : g_En} {pc1 : Nat} {lc1 : g_Lc} {sc1 : List Value} (hen : M.2.2.2.2.2 pc = some en) (hs : ∀ σ, g_step d M.2.2.2.1 L xs en pc lc sc σ = some (pc1, lc1, sc1, σ)) (k : ∀ m, m < n → u_P L xs m d M pc1 lc1 sc1 S R Q) : u_P L xs n d M pc lc sc S R Q := by
  cases n with
  | zero => exact u_zero
  | succ n => exact u_one1 hen (hs _) (k n (Nat.lt_succ_self n))
theorem u_br {en : g_En} {t f : Nat} {sc1 : List Value} {P : Prop} [hd : Decidable P] (hen : M.2.2.2.2.2 pc = some en) (hs : ∀ σ, g_step d M.2.2.2.1 L xs en pc lc sc σ = some (bif decide P then t else f, lc, sc1, σ)) (kt : P → u_P L xs n d M t lc sc1 S R Q) (kf : ¬ P → u_P L xs n d M f lc sc1 S R Q) : u_P L xs n d M pc lc sc S R Q := by
  by_cases h : P
  · refine u_one hen ?_ (kt h)
    rw [hs, decide_eq_true h]
    rfl
  · refine u_one hen ?_ (kf h)
    rw [hs, decide_eq_false h]
    rfl
theorem u_ret {en : g_En} {r : Option Value} (hen : M.2.2.2.2.2 pc = some en) (hr : g_rt en.1.1 M.2.2.2.2.1 sc = some r) (q : Q r S R) : u_P L xs n d M pc lc sc S R Q := by
  intro r2 σ h
  cases n with
  | zero => exact u_zero (Q := Q) r2 σ h
  | succ n =>
    rw [g_run_ret hen (g_step_ret hr) hr] at h
    cases h
    exact ⟨S, R, rfl, q⟩
theorem u_none {en : g_En} (hen : M.2.2.2.2.2 pc = some en) (h0 : g_step d M.2.2.2.1 L xs en pc lc sc (v_mk v_ty S R) = none) (h1 : g_rt en.1.1 M.2.2.2.2.1 sc = none) (h2 : g_ki en.1.1 = none) : u_P L xs n d M pc lc sc S R Q := by
  intro r σ h
  cases n with
  | zero => exact u_zero (Q := Q) r σ h
  | succ n =>
    have e : g_run g_mt L xs (n + 1) d M pc lc sc (v_mk v_ty S R) = none := by
      rw [g_run]
      simp only [hen, h0, h1, h2]
    rw [e] at h
    cases h
/-- an answer of a boolean -/
theorem u_retb {len x y : Nat} {z : Int} {v : Int32} (hen : M.2.2.2.2.2 pc = some ((.ireturn, len), x, y, z)) (hM : M.2.2.2.2.1 = some .boolean) (q : Q (some (.int v)) S R) : u_P L xs n d M pc lc [.int v] S R Q := by
  by_cases hn : narrow .boolean (.int v) = .int v
  · refine u_ret (r := some (.int v)) hen ?_ q
    rw [hM]
    simp only [g_rt]
    rw [if_pos hn]
  · refine u_none hen rfl ?_ rfl
    rw [hM]
    simp only [g_rt]
    rw [if_neg hn]
theorem u_sn {nL : Nat} {en : g_En} {σ : List g_Ce} (h0 : g_stk en.1.1 en.2.2.2 sc = none) (h1 : g_lcl nL en.1.1 lc sc = none) (h2 : g_jmp en.1.1 pc en.2.1 sc = none) (h : g_hp d L xs en.1.1 en.2.1 en.2.2.1 sc σ = none) : g_step d nL L xs en pc lc sc σ = none := by
  simp only [g_step, h0, h1, h2, h]
theorem u_get {i len ci y a : Nat} {z : Int} {fs : List v_Ft} {b : Int × Int} {t : List Value} (hen : M.2.2.2.2.2 pc = some ((.getfield i, len), ci, y, z)) (hg : v_ty a = some (.inr (.inr (ci, fs)))) (hf : fs[y]? = some (.inl b)) (k : u_P L xs n d M (pc + len) lc (.int (S a y) :: t) S R Q) : u_P L xs n d M pc lc (.ref (a + 1) :: t) S R Q := by
  refine u_one hen ?_ k
  refine g_st_hp (en := ((.getfield i, len), ci, y, z)) rfl rfl rfl (q := (.int (S a y) :: t, v_mk v_ty S R)) ?_
  have g1 := w_ty hg S R
  have g2 := v_fs_at (S := S) (R := R) (a := a) hf
  simp only [g_hp, g_gf, g1, v_cell, beq_self_eq_true, cond_true, g2]
  rfl
theorem u_getr {i len ci y a c : Nat} {z : Int} {fs : List v_Ft} {t : List Value} (hen : M.2.2.2.2.2 pc = some ((.getfield i, len), ci, y, z)) (hg : v_ty a = some (.inr (.inr (ci, fs)))) (hf : fs[y]? = some (.inr (.inl c))) (k : u_P L xs n d M (pc + len) lc (.ref c :: t) S R Q) : u_P L xs n d M pc lc (.ref (a + 1) :: t) S R Q := by
  refine u_one hen ?_ k
  refine g_st_hp (en := ((.getfield i, len), ci, y, z)) rfl rfl rfl (q := (.ref c :: t, v_mk v_ty S R)) ?_
  have g1 := w_ty hg S R
  have g2 := v_fs_at (S := S) (R := R) (a := a) hf
  simp only [g_hp, g_gf, g1, v_cell, beq_self_eq_true, cond_true, g2]
  rfl
theorem u_getv {i len ci y a c : Nat} {z : Int} {fs : List v_Ft} {l : List Nat} {t : List Value} (hen : M.2.2.2.2.2 pc = some ((.getfield i, len), ci, y, z)) (hg : v_ty a = some (.inr (.inr (ci, fs)))) (hf : fs[y]? = some (.inr (.inr l))) (hR : R a y = some c) (k : u_P L xs n d M (pc + len) lc (.ref c :: t) S R Q) : u_P L xs n d M pc lc (.ref (a + 1) :: t) S R Q := by
  refine u_one hen ?_ k
  refine g_st_hp (en := ((.getfield i, len), ci, y, z)) rfl rfl rfl (q := (.ref c :: t, v_mk v_ty S R)) ?_
  have g1 := w_ty hg S R
  have g2 := v_fs_at (S := S) (R := R) (a := a) hf
  simp only [g_hp, g_gf, g1, v_cell, beq_self_eq_true, cond_true, g2]
  simp only [v_fv, hR]
  rfl
theorem u_put {i len ci y a : Nat} {z : Int} {fs : List v_Ft} {b : Int × Int} {t : List Value} {v : Int32} (hen : M.2.2.2.2.2 pc = some ((.putfield i, len), ci, y, z)) (hg : v_ty a = some (.inr (.inr (ci, fs)))) (hf : fs[y]? = some (.inl b)) (k : u_P L xs n d M (pc + len) lc t (v_ur S a (upd (S a) y v)) R Q) : u_P L xs n d M pc lc (.int v :: .ref (a + 1) :: t) S R Q := by
  have g1 := w_ty hg S R
  have hl : y < (fs.mapIdx (fun j ft => v_fv S R a j ft)).length := by simpa using (List.getElem?_eq_some_iff.mp hf).1
  by_cases hc : narrow (g_ty ci y) (.int v) = .int v ∧ fits (g_ty ci y) (.int v) = true
  · refine u_one hen ?_ k
    refine g_st_hp (en := ((.putfield i, len), ci, y, z)) rfl rfl rfl (q := (t, v_mk v_ty (v_ur S a (upd (S a) y v)) R)) ?_
    simp only [g_hp, g_pf, g1, v_cell]
    rw [if_pos ⟨trivial, hl, hc.1, hc.2⟩, w_mkf hg hf]
  · refine u_none hen ?_ rfl rfl
    refine u_sn (en := ((.putfield i, len), ci, y, z)) rfl rfl rfl ?_
    simp only [g_hp, g_pf, g1, v_cell]
    rw [if_neg (fun h => hc ⟨h.2.2.1, h.2.2.2⟩)]
theorem u_putR {i len ci y a c : Nat} {z : Int} {fs : List v_Ft} {l : List Nat} {t : List Value} (hen : M.2.2.2.2.2 pc = some ((.putfield i, len), ci, y, z)) (hg : v_ty a = some (.inr (.inr (ci, fs)))) (hf : fs[y]? = some (.inr (.inr l))) (k : u_P L xs n d M (pc + len) lc t S (v_urr R a y c) Q) : u_P L xs n d M pc lc (.ref c :: .ref (a + 1) :: t) S R Q := by
  have g1 := w_ty hg S R
  have hl : y < (fs.mapIdx (fun j ft => v_fv S R a j ft)).length := by simpa using (List.getElem?_eq_some_iff.mp hf).1
  by_cases hc : narrow (g_ty ci y) (.ref c) = .ref c ∧ fits (g_ty ci y) (.ref c) = true
  · refine u_one hen ?_ k
    refine g_st_hp (en := ((.putfield i, len), ci, y, z)) rfl rfl rfl (q := (t, v_mk v_ty S (v_urr R a y c))) ?_
    simp only [g_hp, g_pf, g1, v_cell]
    have hm := v_mk_ref (X := (0, fun _ => 0, (v_ty, [], fun _ _ _ => true, fun _ _ => none, fun _ _ _ _ _ => none), fun _ => True, S, R)) hg hf S R c
    rw [if_pos ⟨trivial, hl, hc.1, hc.2⟩, hm]
  · refine u_none hen ?_ rfl rfl
    refine u_sn (en := ((.putfield i, len), ci, y, z)) rfl rfl rfl ?_
    simp only [g_hp, g_pf, g1, v_cell]
    rw [if_neg (fun h => hc ⟨h.2.2.1, h.2.2.2⟩)]
theorem u_iald {len x y a m : Nat} {z : Int} {b : Int × Int} {t : List Value} {i : Int32} (hen : M.2.2.2.2.2 pc = some ((.iaload, len), x, y, z)) (hg : v_ty a = some (.inl (0, m, b))) (k : 0 ≤ i.toInt → i.toInt < (m : Int) → u_P L xs n d M (pc + len) lc (.int (S a i.toInt.toNat) :: t) S R Q) : u_P L xs n d M pc lc (.int i :: .ref (a + 1) :: t) S R Q := by
  have g1 := w_ty hg S R
  by_cases hr : 0 ≤ i.toInt ∧ i.toInt < (m : Int)
  · refine u_one hen ?_ (k hr.1 hr.2)
    refine g_st_hp (en := ((.iaload, len), x, y, z)) rfl rfl rfl (q := (.int (S a i.toInt.toNat) :: t, v_mk v_ty S R)) ?_
    obtain ⟨o1, o2⟩ := q_in32 hr.1 hr.2
    simp only [g_hp, g_ia, g1, v_cell, o1, o2, cond_false]
  · refine u_none hen ?_ rfl rfl
    refine u_sn (en := ((.iaload, len), x, y, z)) rfl rfl rfl ?_
    simp only [g_hp, g_ia, g1, v_cell, u_outT hr, cond_true]
theorem u_bald {len x y a m tg : Nat} {z : Int} {b : Int × Int} {t : List Value} {i : Int32} (hen : M.2.2.2.2.2 pc = some ((.baload, len), x, y, z)) (hg : v_ty a = some (.inl (tg, m, b))) (htg : tg = 1 ∨ tg = 2) (k : 0 ≤ i.toInt → i.toInt < (m : Int) → u_P L xs n d M (pc + len) lc (.int (S a i.toInt.toNat) :: t) S R Q) : u_P L xs n d M pc lc (.int i :: .ref (a + 1) :: t) S R Q := by
  have g1 := w_ty hg S R
  by_cases hr : 0 ≤ i.toInt ∧ i.toInt < (m : Int)
  · refine u_one hen ?_ (k hr.1 hr.2)
    refine g_st_hp (en := ((.baload, len), x, y, z)) rfl rfl rfl (q := (.int (S a i.toInt.toNat) :: t, v_mk v_ty S R)) ?_
    obtain ⟨o1, o2⟩ := q_in32 hr.1 hr.2
    rcases htg with rfl | rfl
    · simp only [g_hp, g_ba, g1, v_cell, o1, o2, cond_false]
    · simp only [g_hp, g_ba, g1, v_cell, o1, o2, cond_false]
  · refine u_none hen ?_ rfl rfl
    refine u_sn (en := ((.baload, len), x, y, z)) rfl rfl rfl ?_
    rcases htg with rfl | rfl
    · simp only [g_hp, g_ba, g1, v_cell, u_outT hr, cond_true]
    · simp only [g_hp, g_ba, g1, v_cell, u_outT hr, cond_true]
theorem u_iast {len x y a m : Nat} {z : Int} {b : Int × Int} {t : List Value} {i v : Int32} (hen : M.2.2.2.2.2 pc = some ((.iastore, len), x, y, z)) (hg : v_ty a = some (.inl (0, m, b))) (k : 0 ≤ i.toInt → i.toInt < (m : Int) → u_P L xs n d M (pc + len) lc t (v_ur S a (upd (S a) i.toInt.toNat v)) R Q) : u_P L xs n d M pc lc (.int v :: .int i :: .ref (a + 1) :: t) S R Q := by
  have g1 := w_ty hg S R
  by_cases hr : 0 ≤ i.toInt ∧ i.toInt < (m : Int)
  · refine u_one hen ?_ (k hr.1 hr.2)
    refine g_st_hp (en := ((.iastore, len), x, y, z)) rfl rfl rfl (q := (t, v_mk v_ty (v_ur S a (upd (S a) i.toInt.toNat v)) R)) ?_
    obtain ⟨o1, o2⟩ := q_in32 hr.1 hr.2
    simp only [g_hp, g_is, g1, v_cell, o1, o2, cond_false]
    rw [w_mkr hg]
  · refine u_none hen ?_ rfl rfl
    refine u_sn (en := ((.iastore, len), x, y, z)) rfl rfl rfl ?_
    simp only [g_hp, g_is, g1, v_cell, u_outT hr, cond_true]
/-- bytes (tag 1) and booleans (tag 2) are narrowed as they are written -/
noncomputable def u_nar (tg : Nat) (v : Int32) : Int32 := bif Nat.beq tg 1 then vp_nar .byte v else vp_nar .boolean v
theorem u_bast {len x y a m tg : Nat} {z : Int} {b : Int × Int} {t : List Value} {i v : Int32} (hen : M.2.2.2.2.2 pc = some ((.bastore, len), x, y, z)) (hg : v_ty a = some (.inl (tg, m, b))) (htg : tg = 1 ∨ tg = 2) (k : 0 ≤ i.toInt → i.toInt < (m : Int) → u_P L xs n d M (pc + len) lc t (v_ur S a (upd (S a) i.toInt.toNat (u_nar tg v))) R Q) : u_P L xs n d M pc lc (.int v :: .int i :: .ref (a + 1) :: t) S R Q := by
  have g1 := w_ty hg S R
  by_cases hr : 0 ≤ i.toInt ∧ i.toInt < (m : Int)
  · refine u_one hen ?_ (k hr.1 hr.2)
    refine g_st_hp (en := ((.bastore, len), x, y, z)) rfl rfl rfl (q := (t, v_mk v_ty (v_ur S a (upd (S a) i.toInt.toNat (u_nar tg v))) R)) ?_
    obtain ⟨o1, o2⟩ := q_in32 hr.1 hr.2
    rcases htg with rfl | rfl
    · simp only [g_hp, g_bs, g1, v_cell, o1, o2, cond_false]
      rw [w_mkr hg]
      rfl
    · simp only [g_hp, g_bs, g1, v_cell, o1, o2, cond_false]
      rw [w_mkr hg]
      rfl
  · refine u_none hen ?_ rfl rfl
    refine u_sn (en := ((.bastore, len), x, y, z)) rfl rfl rfl ?_
    rcases htg with rfl | rfl
    · simp only [g_hp, g_bs, g1, v_cell, u_outT hr, cond_true]
    · simp only [g_hp, g_bs, g1, v_cell, u_outT hr, cond_true]
theorem u_aald {len x y a : Nat} {z : Int} {l : List Nat} {t : List Value} {i : Int32} (hen : M.2.2.2.2.2 pc = some ((.aaload, len), x, y, z)) (hg : v_ty a = some (.inr (.inl l))) (k : 0 ≤ i.toInt → i.toInt < (l.length : Int) → u_P L xs n d M (pc + len) lc (va_rf (R a i.toInt.toNat) :: t) S R Q) : u_P L xs n d M pc lc (.int i :: .ref (a + 1) :: t) S R Q := by
  have g1 := w_ty hg S R
  by_cases hr : 0 ≤ i.toInt ∧ i.toInt < (l.length : Int)
  · refine u_one hen ?_ (k hr.1 hr.2)
    refine g_st_hp (en := ((.aaload, len), x, y, z)) rfl rfl rfl (q := (va_rf (R a i.toInt.toNat) :: t, v_mk v_ty S R)) ?_
    obtain ⟨o1, o2⟩ := q_in32 hr.1 hr.2
    simp only [g_hp, g_aa, g1, v_cell, o1, o2, cond_false]
  · refine u_none hen ?_ rfl rfl
    refine u_sn (en := ((.aaload, len), x, y, z)) rfl rfl rfl ?_
    simp only [g_hp, g_aa, g1, v_cell, u_outT hr, cond_true]
theorem u_al {len x y a m tg : Nat} {z : Int} {b : Int × Int} {t : List Value} (hen : M.2.2.2.2.2 pc = some ((.arraylength, len), x, y, z)) (hg : v_ty a = some (.inl (tg, m, b))) (ht : decide (tg < 4) = true) (k : u_P L xs n d M (pc + len) lc (.int (Int32.ofNat m) :: t) S R Q) : u_P L xs n d M pc lc (.ref (a + 1) :: t) S R Q := by
  refine u_one hen ?_ k
  refine g_st_hp (en := ((.arraylength, len), x, y, z)) rfl rfl rfl (q := (.int (Int32.ofNat m) :: t, v_mk v_ty S R)) ?_
  have g1 := w_ty hg S R
  simp only [g_hp, g_al, g1, v_cell]
  rw [if_pos (of_decide_eq_true ht)]
theorem u_alr {len x y a : Nat} {z : Int} {l : List Nat} {t : List Value} (hen : M.2.2.2.2.2 pc = some ((.arraylength, len), x, y, z)) (hg : v_ty a = some (.inr (.inl l))) (k : u_P L xs n d M (pc + len) lc (.int (Int32.ofNat l.length) :: t) S R Q) : u_P L xs n d M pc lc (.ref (a + 1) :: t) S R Q := by
  refine u_one hen ?_ k
  refine g_st_hp (en := ((.arraylength, len), x, y, z)) rfl rfl rfl (q := (.int (Int32.ofNat l.length) :: t, v_mk v_ty S R)) ?_
  have g1 := w_ty hg S R
  simp only [g_hp, g_al, g1, v_cell]
  rw [if_pos (by decide)]
theorem u_irem {len x y : Nat} {z : Int} {t : List Value} {a b : Int32} (hen : M.2.2.2.2.2 pc = some ((.irem, len), x, y, z)) (k : ¬ b = 0 → u_P L xs n d M (pc + len) lc (.int (a - a / b * b) :: t) S R Q) : u_P L xs n d M pc lc (.int b :: .int a :: t) S R Q := by
  by_cases hb : b = 0
  · refine u_none hen ?_ rfl rfl
    refine u_sn (en := ((.irem, len), x, y, z)) ?_ rfl rfl rfl
    simp only [g_stk, g_d2, if_pos hb]
  · refine u_one hen (g_st_stk (en := ((.irem, len), x, y, z)) ?_) (k hb)
    simp only [g_stk, g_d2, if_neg hb]
theorem u_idiv {len x y : Nat} {z : Int} {t : List Value} {a b : Int32} (hen : M.2.2.2.2.2 pc = some ((.idiv, len), x, y, z)) (k : ¬ b = 0 → u_P L xs n d M (pc + len) lc (.int (a / b) :: t) S R Q) : u_P L xs n d M pc lc (.int b :: .int a :: t) S R Q := by
  by_cases hb : b = 0
  · refine u_none hen ?_ rfl rfl
    refine u_sn (en := ((.idiv, len), x, y, z)) ?_ rfl rfl rfl
    simp only [g_stk, g_d2, if_pos hb]
  · refine u_one hen (g_st_stk (en := ((.idiv, len), x, y, z)) ?_) (k hb)
    simp only [g_stk, g_d2, if_neg hb]
/-- a macro that isn't done: nothing comes of it -/
theorem u_mno {ix len x y : Nat} {z : Int} (hen : M.2.2.2.2.2 pc = some ((.invokestatic ix, len), x, y, z)) (hx : 301 ≤ x) (hx9 : (x == 99999) = false) (h : g_nv d x sc (v_mk v_ty S R) = none) : u_P L xs n d M pc lc sc S R Q := by
  intro r σ hr
  cases n with
  | zero => exact u_zero (Q := Q) r σ hr
  | succ n =>
    have h0 : g_step d M.2.2.2.1 L xs ((.invokestatic ix, len), x, y, z) pc lc sc (v_mk v_ty S R) = none := u_sn (en := ((.invokestatic ix, len), x, y, z)) rfl rfl rfl h
    have h1 : g_rt (.invokestatic ix) M.2.2.2.2.1 sc = none := rfl
    have h2 : g_ki (.invokestatic ix) = some 0 := rfl
    have e : g_run g_mt L xs (n + 1) d M pc lc sc (v_mk v_ty S R) = none := by
      rw [g_run]
      cases d with
      | zero => simp only [hen, h0, h1, h2]
      | succ d => simp only [hen, h0, h1, h2, hx9, cond_false, g_mt_big hx]
    rw [e] at hr
    cases hr
theorem u_m2 {ix len x y : Nat} {z : Int} {t : List Value} {a b : Int32} {f : Int32 → Int32 → Int32} (hen : M.2.2.2.2.2 pc = some ((.invokestatic ix, len), x, y, z)) (hx : 301 ≤ x) (hx9 : (x == 99999) = false) (hf : ∀ σ, g_nv d x (.int b :: .int a :: t) σ = g_m2 d f (.int b :: .int a :: t) σ) (k : u_P L xs n d M (pc + len) lc (.int (f a b) :: t) S R Q) : u_P L xs n d M pc lc (.int b :: .int a :: t) S R Q := by
  by_cases hc : g_cat t ≤ 8 ∧ 0 < d
  · refine u_one hen (g_st_hp (en := ((.invokestatic ix, len), x, y, z)) rfl rfl rfl (q := (.int (f a b) :: t, v_mk v_ty S R)) ?_) k
    show g_nv d x (.int b :: .int a :: t) (v_mk v_ty S R) = _
    rw [hf]
    simp only [g_m2]
    rw [if_pos hc]
  · refine u_mno hen hx hx9 ?_
    rw [hf]
    simp only [g_m2]
    rw [if_neg hc]
theorem u_max {ix len y : Nat} {z : Int} {t : List Value} {a b : Int32} (hen : M.2.2.2.2.2 pc = some ((.invokestatic ix, len), 99997, y, z)) (k : u_P L xs n d M (pc + len) lc (.int (if a < b then b else a) :: t) S R Q) : u_P L xs n d M pc lc (.int b :: .int a :: t) S R Q := u_m2 (f := fun a b => if a < b then b else a) hen (by decide) rfl (fun _ => rfl) k
theorem u_min {ix len y : Nat} {z : Int} {t : List Value} {a b : Int32} (hen : M.2.2.2.2.2 pc = some ((.invokestatic ix, len), 99996, y, z)) (k : u_P L xs n d M (pc + len) lc (.int (if b < a then b else a) :: t) S R Q) : u_P L xs n d M pc lc (.int b :: .int a :: t) S R Q := u_m2 (f := fun a b => if b < a then b else a) hen (by decide) rfl (fun _ => rfl) k
theorem u_abs {ix len y : Nat} {z : Int} {t : List Value} {a : Int32} (hen : M.2.2.2.2.2 pc = some ((.invokestatic ix, len), 99995, y, z)) (k : u_P L xs n d M (pc + len) lc (.int (if 0 ≤ a then a else 0 - a) :: t) S R Q) : u_P L xs n d M pc lc (.int a :: t) S R Q := by
  have hf : ∀ σ, g_nv d 99995 (.int a :: t) σ = g_m1 d (fun a => if 0 ≤ a then a else 0 - a) (.int a :: t) σ := fun _ => rfl
  by_cases hc : g_cat t ≤ 8 ∧ 0 < d
  · refine u_one hen (g_st_hp (en := ((.invokestatic ix, len), 99995, y, z)) rfl rfl rfl (q := (.int (if 0 ≤ a then a else 0 - a) :: t, v_mk v_ty S R)) ?_) k
    show g_nv d 99995 (.int a :: t) (v_mk v_ty S R) = _
    rw [hf]
    simp only [g_m1]
    rw [if_pos hc]
  · refine u_mno hen (by decide) rfl ?_
    rw [hf]
    simp only [g_m1]
    rw [if_neg hc]
/-- System.arraycopy from and to the first places -/
theorem u_cp {ix len y a a0 n0 n1 : Nat} {z : Int} {b b0 : Int × Int} {t : List Value} {v : Int32} (hen : M.2.2.2.2.2 pc = some ((.invokestatic ix, len), 99998, y, z)) (hg0 : v_ty a0 = some (.inl (0, n0, b0))) (hg : v_ty a = some (.inl (0, n1, b))) (k : 0 ≤ v.toInt → v.toInt ≤ (n0 : Int) → v.toInt ≤ (n1 : Int) → u_P L xs n d M (pc + len) lc t (v_ur S a (fun j => if j < v.toInt.toNat then S a0 j else S a j)) R Q) : u_P L xs n d M pc lc (.int v :: .int (Int32.ofInt 0) :: .ref (a + 1) :: .int (Int32.ofInt 0) :: .ref (a0 + 1) :: t) S R Q := by
  have g1 := w_ty hg S R
  have g0 := w_ty hg0 S R
  have hf : ∀ st σ, g_nv d 99998 st σ = g_cp d st σ := fun _ _ => rfl
  have z0 : ¬ (Int32.ofInt 0 < 0) := by decide
  have zc : (Int32.ofInt 0).toNatClampNeg = 0 := rfl
  have e2 : v.toNatClampNeg = v.toInt.toNat := rfl
  by_cases hc : ¬ Int32.ofInt 0 < 0 ∧ ¬ Int32.ofInt 0 < 0 ∧ ¬ v < 0 ∧ (Int32.ofInt 0).toNatClampNeg + v.toNatClampNeg ≤ n0 ∧ (Int32.ofInt 0).toNatClampNeg + v.toNatClampNeg ≤ n1 ∧ g_cat t ≤ 8 ∧ 0 < d
  · obtain ⟨_, _, c3, c4, c5, _, _⟩ := id hc
    rw [q_lt32] at c3
    have e : (0 : Int32).toInt = 0 := rfl
    rw [zc, e2] at c4 c5
    have fe : va_cpy (S a0) (S a) (Int32.ofInt 0).toNatClampNeg (Int32.ofInt 0).toNatClampNeg v.toNatClampNeg = (fun j => if j < v.toInt.toNat then S a0 j else S a j) := by
      funext j
      simp only [va_cpy, zc, e2]
      by_cases hj : j < v.toInt.toNat
      · simp [hj]
      · simp [hj]
    refine u_one hen (g_st_hp (en := ((.invokestatic ix, len), 99998, y, z)) rfl rfl rfl (q := (t, v_mk v_ty (v_ur S a (fun j => if j < v.toInt.toNat then S a0 j else S a j)) R)) ?_) (k (by omega) (by omega) (by omega))
    show g_nv d 99998 _ (v_mk v_ty S R) = _
    rw [hf]
    simp only [g_cp, g0, g1, v_cell]
    rw [if_pos hc, w_mkr hg, fe]
  · refine u_mno hen (by decide) rfl ?_
    rw [hf]
    simp only [g_cp, g0, g1, v_cell]
    rw [if_neg hc]
/-- a call: the callee's own word, then what is behind -/
theorem u_call {ins : Instr} {len x y kk : Nat} {z : Int} {M' : g_M} {ac rest : List Value} {Qc : Option Value → v_Sf → v_Rf → Prop} (hen : M.2.2.2.2.2 pc = some ((ins, len), x, y, z)) (h0 : ∀ d, g_step (d + 1) M.2.2.2.1 L xs ((ins, len), x, y, z) pc lc sc (v_mk v_ty S R) = none) (hrt : g_rt ins M.2.2.2.2.1 sc = none) (hki : g_ki ins = some kk) (hst0 : g_step 0 M.2.2.2.1 L xs ((ins, len), x, y, z) pc lc sc (v_mk v_ty S R) = none) (hx9 : (x == 99999) = false) (hM : g_mt x = some M') (hc : g_cl kk y M'.1 sc (v_mk v_ty S R) = some (ac, rest)) (h1 : g_cat rest ≤ 8) (h2 : (lg_sl ac).length ≤ M'.2.2.2.1) (hq : ∀ d', u_P L xs n d' M' 0 (lv_args 0 ac) [] S R Qc) (k : ∀ r S1 R1, Qc r S1 R1 → u_P L xs n d M (pc + 3) lc (r.toList ++ rest) S1 R1 Q) : u_P L xs n d M pc lc sc S R Q := by
  intro r σ hr
  cases n with
  | zero => exact u_zero (Q := Q) r σ hr
  | succ n =>
    cases d with
    | zero =>
      exfalso
      have e : g_run g_mt L xs (n + 1) 0 M pc lc sc (v_mk v_ty S R) = none := by
        rw [g_run]
        simp only [hen, hst0, hrt, hki]
      rw [e] at hr
      cases hr
    | succ d' =>
      cases hw : g_run g_mt L xs n d' M' 0 (lv_args 0 ac) [] (v_mk v_ty S R) with
      | none =>
        exfalso
        have e6 : decide (g_cat rest ≤ 8) = true := by simpa using h1
        have e7 : decide ((lg_sl ac).length ≤ M'.2.2.2.1) = true := by simpa using h2
        have e : g_run g_mt L xs (n + 1) (d' + 1) M pc lc sc (v_mk v_ty S R) = none := by
          rw [g_run]
          simp only [hen, h0 d', hrt, hki, hx9, hM, hc, e6, e7, hw, cond_false, cond_true, Bool.and_self]
        rw [e] at hr
        cases hr
      | some w =>
        obtain ⟨rv, σ1⟩ := w
        obtain ⟨S1, R1, e1, q1⟩ := hq d' rv σ1 (g_run_n L xs _ _ _ _ _ _ _ _ hw)
        rw [g_run_call hen (h0 d') hrt hki hx9 hM hc h1 h2 hw, e1] at hr
        exact k rv S1 R1 q1 r σ (g_run_n L xs _ _ _ _ _ _ _ _ hr)
theorem u_cs {ix len x y : Nat} {z : Int} {M' : g_M} {ac rest : List Value} {Qc : Option Value → v_Sf → v_Rf → Prop} (hen : M.2.2.2.2.2 pc = some ((.invokestatic ix, len), x, y, z)) (hx : x < 77777) (hM : g_mt x = some M') (hc : ∀ σ, g_cl 0 y M'.1 sc σ = some (ac, rest)) (h1 : g_cat rest ≤ 8) (h2 : (lg_sl ac).length ≤ M'.2.2.2.1) (hq : ∀ d', u_P L xs n d' M' 0 (lv_args 0 ac) [] S R Qc) (k : ∀ r S1 R1, Qc r S1 R1 → u_P L xs n d M (pc + 3) lc (r.toList ++ rest) S1 R1 Q) : u_P L xs n d M pc lc sc S R Q := by
  have hx9 : (x == 99999) = false := by simp; omega
  have h0 : ∀ d, g_step d M.2.2.2.1 L xs ((.invokestatic ix, len), x, y, z) pc lc sc (v_mk v_ty S R) = none := by
    intro d
    show (match g_nv d x sc (v_mk v_ty S R) with
      | some q => _
      | none => none) = none
    rw [g_nv_none hx]
  exact u_call hen (fun d => h0 (d + 1)) rfl rfl (h0 0) hx9 hM (hc _) h1 h2 hq k
theorem u_cv {ix len x y a ci : Nat} {z : Int} {M' : g_M} {q : vw_C} {fs : List v_Ft} {rest : List Value} {Qc : Option Value → v_Sf → v_Rf → Prop} (hen : M.2.2.2.2.2 pc = some ((.invokevirtual ix, len), x, y, z)) (hx : x < 77777) (hM : g_mt x = some M') (hg : v_ty a = some (.inr (.inr (ci, fs)))) (hq0 : vwCl[ci]? = some q) (how : q.1 = M'.1) (hdr : sc.drop y = .ref (a + 1) :: rest) (hle : y ≤ sc.length) (h1 : g_cat rest ≤ 8) (h2 : (lg_sl (.ref (a + 1) :: (sc.take y).reverse)).length ≤ M'.2.2.2.1) (hq : ∀ d', u_P L xs n d' M' 0 (lv_args 0 (.ref (a + 1) :: (sc.take y).reverse)) [] S R Qc) (k : ∀ r S1 R1, Qc r S1 R1 → u_P L xs n d M (pc + 3) lc (r.toList ++ rest) S1 R1 Q) : u_P L xs n d M pc lc sc S R Q := by
  have hx9 : (x == 99999) = false := by simp; omega
  have g1 := w_ty hg S R
  have hc : g_cl 1 y M'.1 sc (v_mk v_ty S R) = some (.ref (a + 1) :: (sc.take y).reverse, rest) := by
    simp only [g_cl, hdr, g1, v_cell, hq0]
    rw [if_pos ⟨how, hle⟩]
  exact u_call hen (fun _ => rfl) rfl rfl rfl hx9 hM hc h1 h2 hq k
theorem u_lc {a b : g_Lc} (h1 : g_nd a) (h2 : g_nd b) (h3 : ∀ i, g_get a i = g_get b i) (k : u_P L xs n d M pc b sc S R Q) : u_P L xs n d M pc a sc S R Q := by
  intro r σ h
  rw [g_run_lc L xs _ _ _ _ a b _ _ ⟨h1, h2, h3⟩] at h
  exact k r σ h
end UPA
/-- a run that ends, and what holds of it if it ends -/
theorem u_use {L : Nat} {xs : Nat → Int32} {n d : Nat} {M : g_M} {pc : Nat} {lc : g_Lc} {sc : List Value} {S : v_Sf} {R : v_Rf} {Q : Option Value → v_Sf → v_Rf → Prop} {r : Option Value} {S1 : v_Sf} {R1 : v_Rf} (h : g_run g_mt L xs n d M pc lc sc (v_mk v_ty S R) = some (r, v_mk v_ty S1 R1)) (k : u_P L xs n d M pc lc sc S R Q) : ∃ S2 R2, v_mk v_ty S1 R1 = v_mk v_ty S2 R2 ∧ Q r S2 R2 := k r _ h
end PrtS42a
section PrtS42b
/-! words for partial roads: stores, answers, the kinds of cells that a method may be given -/
noncomputable def z_s (S : v_Sf) (a i : Nat) (v : Int32) : v_Sf := v_ur S a (upd (S a) i v)
noncomputable def z_cp (S : v_Sf) (a0 a : Nat) (m : Int32) : v_Sf := v_ur S a (fun j => if j < m.toInt.toNat then S a0 j else S a j)
noncomputable def z_max (a b : Int32) : Int32 := if a < b then b else a
noncomputable def z_min (a b : Int32) : Int32 := if b < a then b else a
noncomputable def z_abs (a : Int32) : Int32 := if 0 ≤ a then a else 0 - a
theorem z_s_eq (S : v_Sf) (a i : Nat) (v : Int32) (a' j : Nat) : z_s S a i v a' j = if a' = a ∧ j = i then v else S a' j := by
  by_cases h : a' = a ∧ j = i
  · rw [if_pos h, h.1, h.2]
    exact w_urs
  · rw [if_neg h]
    exact w_urn h
theorem z_cp_eq (S : v_Sf) (a0 a : Nat) (m : Int32) (a' j : Nat) : z_cp S a0 a m a' j = if a' = a ∧ j < m.toInt.toNat then S a0 j else S a' j := by
  unfold z_cp v_ur
  by_cases h : a' = a
  · subst h
    by_cases h2 : j < m.toInt.toNat
    · simp [h2]
    · simp [h2]
  · simp [h]
/-- an answer, the references as they were -/
noncomputable def z_Q (R : v_Rf) (K : Int32 → v_Sf → Prop) (r : Option Value) (S' : v_Sf) (R' : v_Rf) : Prop := ∃ v, some (.int v) = r ∧ R = R' ∧ K v S'
noncomputable def z_V (R : v_Rf) (K : v_Sf → Prop) (r : Option Value) (S' : v_Sf) (R' : v_Rf) : Prop := none = r ∧ R = R' ∧ K S'
noncomputable def z_st (s : Nat) : Prop := s = 1 ∨ s = 11 ∨ s = 21
noncomputable def z_wd (q : Nat) : Prop := ∃ k, k < 6 ∧ q = 33 + 2 * k
noncomputable def z_cd (c : Nat) : Prop := c = 52 ∨ c = 59 ∨ c = 67
noncomputable def z_W (R : v_Rf) : Prop := ∀ i, i < 6 → R 32 i = some (33 + 2 * i + 1)
theorem z_lt6 {i : Int32} (h1 : 0 ≤ i.toInt) (h2 : i.toInt < ((6 : Nat) : Int)) : i.toInt.toNat < 6 := by omega
theorem z_wdi {i : Int32} (h1 : 0 ≤ i.toInt) (h2 : i.toInt < ((6 : Nat) : Int)) : z_wd (33 + 2 * i.toInt.toNat) := ⟨i.toInt.toNat, by omega, rfl⟩
noncomputable abbrev z_any : Int × Int := ((-2147483648), 2147483647)
theorem z_st0 {s : Nat} (h : z_st s) : v_ty s = some (.inr (.inr (7, [.inl z_any, .inr (.inl (s + 2)), .inr (.inl (s + 3)), .inr (.inl (s + 4)), .inr (.inl (s + 5)), .inr (.inl (s + 6)), .inr (.inl (s + 7)), .inl z_any, .inr (.inl (s + 8)), .inr (.inl (s + 9)), .inr (.inl (s + 10)), .inl z_any, .inl z_any, .inl z_any, .inl z_any]))) := by
  rcases h with rfl | rfl | rfl <;> rfl
theorem z_st1 {s : Nat} (h : z_st s) : v_ty (s + 1) = some (.inl (0, 12, z_any)) := by rcases h with rfl | rfl | rfl <;> rfl
theorem z_st2 {s : Nat} (h : z_st s) : v_ty (s + 2) = some (.inl (0, 12, z_any)) := by rcases h with rfl | rfl | rfl <;> rfl
theorem z_st3 {s : Nat} (h : z_st s) : v_ty (s + 3) = some (.inl (0, 12, z_any)) := by rcases h with rfl | rfl | rfl <;> rfl
theorem z_st4 {s : Nat} (h : z_st s) : v_ty (s + 4) = some (.inl (0, 12, z_any)) := by rcases h with rfl | rfl | rfl <;> rfl
theorem z_st5 {s : Nat} (h : z_st s) : v_ty (s + 5) = some (.inl (0, 12, z_any)) := by rcases h with rfl | rfl | rfl <;> rfl
theorem z_st6 {s : Nat} (h : z_st s) : v_ty (s + 6) = some (.inl (0, 12, z_any)) := by rcases h with rfl | rfl | rfl <;> rfl
theorem z_st7 {s : Nat} (h : z_st s) : v_ty (s + 7) = some (.inl (0, 5, z_any)) := by rcases h with rfl | rfl | rfl <;> rfl
theorem z_st8 {s : Nat} (h : z_st s) : v_ty (s + 8) = some (.inl (0, 5, z_any)) := by rcases h with rfl | rfl | rfl <;> rfl
theorem z_st9 {s : Nat} (h : z_st s) : v_ty (s + 9) = some (.inl (0, 6, z_any)) := by rcases h with rfl | rfl | rfl <;> rfl
theorem z_wd0 {q : Nat} (h : z_wd q) : v_ty q = some (.inr (.inr (9, [.inr (.inl (q + 2)), .inl (0, 48), .inl z_any, .inl z_any, .inl z_any]))) := by
  obtain ⟨k, hk, rfl⟩ := h
  match k, hk with
  | 0, _ => rfl
  | 1, _ => rfl
  | 2, _ => rfl
  | 3, _ => rfl
  | 4, _ => rfl
  | 5, _ => rfl
theorem z_wd1 {q : Nat} (h : z_wd q) : v_ty (q + 1) = some (.inl (0, 48, z_any)) := by
  obtain ⟨k, hk, rfl⟩ := h
  match k, hk with
  | 0, _ => rfl
  | 1, _ => rfl
  | 2, _ => rfl
  | 3, _ => rfl
  | 4, _ => rfl
  | 5, _ => rfl
theorem z_cd0 {c : Nat} (h : z_cd c) : v_ty c = some (.inr (.inr (1, [.inr (.inl (c + 2)), .inr (.inl (c + 3)), .inr (.inl (c + 4)), .inr (.inl (c + 5)), .inr (.inl (c + 6)), .inr (.inl (c + 7)), .inl (0, 256), .inl (0, 16)]))) := by
  rcases h with rfl | rfl | rfl <;> rfl
theorem z_cd1 {c : Nat} (h : z_cd c) : v_ty (c + 1) = some (.inl (0, 256, z_any)) := by rcases h with rfl | rfl | rfl <;> rfl
theorem z_cd2 {c : Nat} (h : z_cd c) : v_ty (c + 2) = some (.inl (0, 256, z_any)) := by rcases h with rfl | rfl | rfl <;> rfl
theorem z_cd3 {c : Nat} (h : z_cd c) : v_ty (c + 3) = some (.inl (0, 32, z_any)) := by rcases h with rfl | rfl | rfl <;> rfl
theorem z_cd4 {c : Nat} (h : z_cd c) : v_ty (c + 4) = some (.inl (0, 16, z_any)) := by rcases h with rfl | rfl | rfl <;> rfl
theorem z_cd5 {c : Nat} (h : z_cd c) : v_ty (c + 5) = some (.inl (0, 16, z_any)) := by rcases h with rfl | rfl | rfl <;> rfl
theorem z_cd6 {c : Nat} (h : z_cd c) : v_ty (c + 6) = some (.inl (0, 16, z_any)) := by rcases h with rfl | rfl | rfl <;> rfl
theorem z_ne {V : Int32} {k : Int} (h : ¬ V = Int32.ofInt k) : ¬ V.toInt = k := fun e => h (by rw [← e, Int32.ofInt_toInt])
theorem z_en {V : Int32} {k : Int} (h : ¬ V = Int32.ofInt k) : ¬ k = V.toInt := fun e => h (by rw [e, Int32.ofInt_toInt])
section UJ
variable {L : Nat} {xs : Nat → Int32} {n d : Nat} {M : g_M} {pc : Nat} {lc : g_Lc} {sc : List Value} {S : v_Sf} {R : v_Rf} {Q : Option Value → v_Sf → v_Rf → Prop}
theorem u_jm {en : g_En} {t : Nat} {sc1 : List Value} (hen : M.2.2.2.2.2 pc = some en) (h0 : g_stk en.1.1 en.2.2.2 sc = none) (h1 : g_lcl M.2.2.2.1 en.1.1 lc sc = none) (hj : g_jmp en.1.1 pc en.2.1 sc = some (t, sc1)) (k : u_P L xs n d M t lc sc1 S R Q) : u_P L xs n d M pc lc sc S R Q := u_one hen (g_st_jmp h0 h1 hj) k
end UJ
theorem z_lies (L : Nat) (xs : Nat → Int32) (n d : Nat) (a b c : Int64) (S : v_Sf) (R : v_Rf) : u_P L xs n d m_X12_lies 0 (lv_args 0 [.long a, .long b, .long c]) [] S R (z_Q R (fun v S1 => p_b (decide (b.toInt ≤ a.toInt ∧ a.toInt ≤ c.toInt)) = v ∧ S = S1)) := by
  have e0 : (0 : Int32).toInt = 0 := rfl
  show u_P L xs n d m_X12_lies 0 [(0, .long a), (2, .long b), (4, .long c)] [] S R _
  refine u_st rfl (fun _ => rfl) ?_
  refine u_st rfl (fun _ => rfl) ?_
  refine u_st rfl (fun _ => rfl) ?_
  show u_P L xs n d m_X12_lies 3 [(0, .long a), (2, .long b), (4, .long c)] [.int (lg_cmp a b)] S R _
  refine u_br (P := lg_cmp a b < 0) rfl (fun _ => rfl) (fun h1 => ?_) (fun h1 => ?_)
  · show u_P L xs n d m_X12_lies 17 [(0, .long a), (2, .long b), (4, .long c)] [] S R _
    refine u_st rfl (fun _ => rfl) ?_
    rw [lg_n] at h1
    exact u_retb rfl rfl ⟨_, rfl, rfl, by rw [decide_eq_false (by omega)]; rfl, rfl⟩
  · show u_P L xs n d m_X12_lies 6 [(0, .long a), (2, .long b), (4, .long c)] [] S R _
    refine u_st rfl (fun _ => rfl) ?_
    refine u_st rfl (fun _ => rfl) ?_
    refine u_st rfl (fun _ => rfl) ?_
    show u_P L xs n d m_X12_lies 10 [(0, .long a), (2, .long b), (4, .long c)] [.int (lg_cmp a c)] S R _
    refine u_br (P := 0 < lg_cmp a c) rfl (fun _ => rfl) (fun h2 => ?_) (fun h2 => ?_)
    · show u_P L xs n d m_X12_lies 17 [(0, .long a), (2, .long b), (4, .long c)] [] S R _
      refine u_st rfl (fun _ => rfl) ?_
      rw [lg_n] at h1
      rw [lg_p] at h2
      exact u_retb rfl rfl ⟨_, rfl, rfl, by rw [decide_eq_false (by omega)]; rfl, rfl⟩
    · show u_P L xs n d m_X12_lies 13 [(0, .long a), (2, .long b), (4, .long c)] [] S R _
      refine u_st rfl (fun _ => rfl) ?_
      refine u_st rfl (fun _ => rfl) ?_
      rw [lg_n] at h1
      rw [lg_p] at h2
      exact u_retb rfl rfl ⟨_, rfl, rfl, by rw [decide_eq_true (by omega)]; rfl, rfl⟩
noncomputable def z_in (x : Int32) (lo hi : Int) : Int32 := p_b (decide (lo ≤ x.toInt ∧ x.toInt ≤ hi))
theorem z_liesC (L : Nat) (xs : Nat → Int32) (n d : Nat) (x : Int32) (b c : Int64) {lo hi : Int} (hb : b.toInt = lo) (hc : c.toInt = hi) (S : v_Sf) (R : v_Rf) : u_P L xs n d m_X12_lies 0 (lv_args 0 [.long x.toInt64, .long b, .long c]) [] S R (z_Q R (fun v S1 => z_in x lo hi = v ∧ S = S1)) := by
  have h := z_lies L xs n d x.toInt64 b c S R
  rw [q_i2l, hb, hc] at h
  exact h
section UB
variable {L : Nat} {xs : Nat → Int32} {n d : Nat} {M : g_M} {pc : Nat} {lc : g_Lc} {t : List Value} {S : v_Sf} {R : v_Rf} {Q : Option Value → v_Sf → v_Rf → Prop} {len x y : Nat} {z : Int} {a b : Int32}
theorem u_if_eq {o : Int} (hen : M.2.2.2.2.2 pc = some ((.ifCond .eq o, len), x, y, z)) (kt : a = 0 → u_P L xs n d M x lc t S R Q) (kf : ¬ (a = 0) → u_P L xs n d M (pc + 3) lc t S R Q) : u_P L xs n d M pc lc (.int a :: t) S R Q := u_br (P := a = 0) hen (fun _ => rfl) kt kf
theorem u_if_ne {o : Int} (hen : M.2.2.2.2.2 pc = some ((.ifCond .ne o, len), x, y, z)) (kt : ¬ a = 0 → u_P L xs n d M x lc t S R Q) (kf : ¬ (¬ a = 0) → u_P L xs n d M (pc + 3) lc t S R Q) : u_P L xs n d M pc lc (.int a :: t) S R Q := u_br (P := ¬ a = 0) hen (fun _ => rfl) kt kf
theorem u_if_lt {o : Int} (hen : M.2.2.2.2.2 pc = some ((.ifCond .lt o, len), x, y, z)) (kt : a < 0 → u_P L xs n d M x lc t S R Q) (kf : ¬ (a < 0) → u_P L xs n d M (pc + 3) lc t S R Q) : u_P L xs n d M pc lc (.int a :: t) S R Q := u_br (P := a < 0) hen (fun _ => rfl) kt kf
theorem u_if_ge {o : Int} (hen : M.2.2.2.2.2 pc = some ((.ifCond .ge o, len), x, y, z)) (kt : 0 ≤ a → u_P L xs n d M x lc t S R Q) (kf : ¬ (0 ≤ a) → u_P L xs n d M (pc + 3) lc t S R Q) : u_P L xs n d M pc lc (.int a :: t) S R Q := u_br (P := 0 ≤ a) hen (fun _ => rfl) kt kf
theorem u_if_gt {o : Int} (hen : M.2.2.2.2.2 pc = some ((.ifCond .gt o, len), x, y, z)) (kt : 0 < a → u_P L xs n d M x lc t S R Q) (kf : ¬ (0 < a) → u_P L xs n d M (pc + 3) lc t S R Q) : u_P L xs n d M pc lc (.int a :: t) S R Q := u_br (P := 0 < a) hen (fun _ => rfl) kt kf
theorem u_if_le {o : Int} (hen : M.2.2.2.2.2 pc = some ((.ifCond .le o, len), x, y, z)) (kt : a ≤ 0 → u_P L xs n d M x lc t S R Q) (kf : ¬ (a ≤ 0) → u_P L xs n d M (pc + 3) lc t S R Q) : u_P L xs n d M pc lc (.int a :: t) S R Q := u_br (P := a ≤ 0) hen (fun _ => rfl) kt kf
theorem u_ic_eq {o : Int} (hen : M.2.2.2.2.2 pc = some ((.if_icmp .eq o, len), x, y, z)) (kt : a = b → u_P L xs n d M x lc t S R Q) (kf : ¬ (a = b) → u_P L xs n d M (pc + 3) lc t S R Q) : u_P L xs n d M pc lc (.int b :: .int a :: t) S R Q := u_br (P := a = b) hen (fun _ => rfl) kt kf
theorem u_ic_ne {o : Int} (hen : M.2.2.2.2.2 pc = some ((.if_icmp .ne o, len), x, y, z)) (kt : ¬ a = b → u_P L xs n d M x lc t S R Q) (kf : ¬ (¬ a = b) → u_P L xs n d M (pc + 3) lc t S R Q) : u_P L xs n d M pc lc (.int b :: .int a :: t) S R Q := u_br (P := ¬ a = b) hen (fun _ => rfl) kt kf
theorem u_ic_lt {o : Int} (hen : M.2.2.2.2.2 pc = some ((.if_icmp .lt o, len), x, y, z)) (kt : a < b → u_P L xs n d M x lc t S R Q) (kf : ¬ (a < b) → u_P L xs n d M (pc + 3) lc t S R Q) : u_P L xs n d M pc lc (.int b :: .int a :: t) S R Q := u_br (P := a < b) hen (fun _ => rfl) kt kf
theorem u_ic_ge {o : Int} (hen : M.2.2.2.2.2 pc = some ((.if_icmp .ge o, len), x, y, z)) (kt : b ≤ a → u_P L xs n d M x lc t S R Q) (kf : ¬ (b ≤ a) → u_P L xs n d M (pc + 3) lc t S R Q) : u_P L xs n d M pc lc (.int b :: .int a :: t) S R Q := u_br (P := b ≤ a) hen (fun _ => rfl) kt kf
theorem u_ic_gt {o : Int} (hen : M.2.2.2.2.2 pc = some ((.if_icmp .gt o, len), x, y, z)) (kt : b < a → u_P L xs n d M x lc t S R Q) (kf : ¬ (b < a) → u_P L xs n d M (pc + 3) lc t S R Q) : u_P L xs n d M pc lc (.int b :: .int a :: t) S R Q := u_br (P := b < a) hen (fun _ => rfl) kt kf
theorem u_ic_le {o : Int} (hen : M.2.2.2.2.2 pc = some ((.if_icmp .le o, len), x, y, z)) (kt : a ≤ b → u_P L xs n d M x lc t S R Q) (kf : ¬ (a ≤ b) → u_P L xs n d M (pc + 3) lc t S R Q) : u_P L xs n d M pc lc (.int b :: .int a :: t) S R Q := u_br (P := a ≤ b) hen (fun _ => rfl) kt kf
end UB
section UE
variable {L : Nat} {xs : Nat → Int32} {n d : Nat} {M : g_M} {pc : Nat} {lc : g_Lc} {sc : List Value} {S : v_Sf} {R : v_Rf} {Q : Option Value → v_Sf → v_Rf → Prop}
theorem u_getE {i len ci y a : Nat} {z : Int} {fs : List v_Ft} {b : Int × Int} {t : List Value} {v : Int32} (hen : M.2.2.2.2.2 pc = some ((.getfield i, len), ci, y, z)) (hg : v_ty a = some (.inr (.inr (ci, fs)))) (hf : fs[y]? = some (.inl b)) (hv : S a y = v) (k : u_P L xs n d M (pc + len) lc (.int v :: t) S R Q) : u_P L xs n d M pc lc (.ref (a + 1) :: t) S R Q := by
  subst hv
  exact u_get hen hg hf k
theorem u_ialdE {len x y a m : Nat} {z : Int} {b : Int × Int} {t : List Value} {i v : Int32} (hen : M.2.2.2.2.2 pc = some ((.iaload, len), x, y, z)) (hg : v_ty a = some (.inl (0, m, b))) (hv : S a i.toInt.toNat = v) (k : 0 ≤ i.toInt → i.toInt < (m : Int) → u_P L xs n d M (pc + len) lc (.int v :: t) S R Q) : u_P L xs n d M pc lc (.int i :: .ref (a + 1) :: t) S R Q := by
  subst hv
  exact u_iald hen hg k
theorem u_baldE {len x y a m tg : Nat} {z : Int} {b : Int × Int} {t : List Value} {i v : Int32} (hen : M.2.2.2.2.2 pc = some ((.baload, len), x, y, z)) (hg : v_ty a = some (.inl (tg, m, b))) (htg : tg = 1 ∨ tg = 2) (hv : S a i.toInt.toNat = v) (k : 0 ≤ i.toInt → i.toInt < (m : Int) → u_P L xs n d M (pc + len) lc (.int v :: t) S R Q) : u_P L xs n d M pc lc (.int i :: .ref (a + 1) :: t) S R Q := by
  subst hv
  exact u_bald hen hg htg k
end UE
theorem z_sn {S : v_Sf} {a i : Nat} {v : Int32} {b j : Nat} (h : ¬ (b = a ∧ j = i)) : z_s S a i v b j = S b j := by rw [z_s_eq, if_neg h]
theorem z_ss {S : v_Sf} {a i : Nat} {v : Int32} : z_s S a i v a i = v := by rw [z_s_eq, if_pos ⟨rfl, rfl⟩]
theorem z_stl {s : Nat} (h : z_st s) : s ≤ 21 := by rcases h with rfl | rfl | rfl <;> decide
theorem z_wdl {q : Nat} (h : z_wd q) : 33 ≤ q ∧ q ≤ 43 := by
  obtain ⟨k, hk, rfl⟩ := h
  omega
theorem z_cdl {c : Nat} (h : z_cd c) : c = 52 ∨ c = 59 ∨ c = 67 := h
end PrtS42b
section PrtS42e
/-! loops by a counter -/
noncomputable def z_i (k : Nat) : Int32 := Int32.ofInt (k : Int)
theorem z_it {k : Nat} (h : k < 2000000000) : (z_i k).toInt = (k : Int) := w_nat h
theorem z_itn {k : Nat} (h : k < 2000000000) : (z_i k).toInt.toNat = k := w_natn h
theorem z_i1 (k : Nat) : z_i k + Int32.ofInt 1 = z_i (k + 1) := w_inc k
theorem z_leB {B : Int} {k : Nat} (h : Int32.ofInt B ≤ z_i k) (hB : 0 ≤ B ∧ B < 2000000000) (hk : k < 2000000000) : B ≤ (k : Int) := by
  have h2 := Int32.le_iff_toInt_le.mp h
  rw [z_it hk, show (Int32.ofInt B).toInt = B from q_ofr (by omega) (by omega)] at h2
  exact h2
theorem z_ltB {B : Int} {k : Nat} (h : ¬ Int32.ofInt B ≤ z_i k) (hB : 0 ≤ B ∧ B < 2000000000) (hk : k < 2000000000) : (k : Int) < B := by
  have h2 : ¬ (Int32.ofInt B).toInt ≤ (z_i k).toInt := fun e => h (Int32.le_iff_toInt_le.mpr e)
  rw [z_it hk, show (Int32.ofInt B).toInt = B from q_ofr (by omega) (by omega)] at h2
  omega
theorem z_ltB2 {B k : Nat} (h : ¬ Int32.ofInt (B : Int) ≤ z_i k) (hB : B < 2000000000) (hk : k < 2000000000) : k < B := by
  have := z_ltB h (by omega) hk
  omega
theorem z_leB2 {B k : Nat} (h : Int32.ofInt (B : Int) ≤ z_i k) (hB : B < 2000000000) (hk : k < 2000000000) : B ≤ k := by
  have := z_leB h (by omega) hk
  omega
theorem z_itV {k : Nat} (h : k ≤ 2147483647) : (z_i k).toInt = (k : Int) := q_ofr (by omega) (by omega)
theorem z_ltV {b : Int32} {k : Nat} (h : ¬ b ≤ z_i k) (hk : k ≤ b.toInt.toNat) : k < b.toInt.toNat := by
  have hb := b.toInt_lt
  have h2 : ¬ b.toInt ≤ (z_i k).toInt := fun e => h (Int32.le_iff_toInt_le.mpr e)
  rw [z_itV (by omega)] at h2
  omega
theorem z_leV {b : Int32} {k : Nat} (h : b ≤ z_i k) (hk : k ≤ b.toInt.toNat) : b.toInt.toNat ≤ k := by
  have hb := b.toInt_lt
  have h2 := Int32.le_iff_toInt_le.mp h
  rw [z_itV (by omega)] at h2
  omega
theorem z_ltA {B k : Nat} (h : (z_i k).toInt < (B : Int)) (hk : k < 2000000000) : k < B := by
  rw [z_it hk] at h
  omega
theorem z_rem0 {b x : Int32} (h : b ≤ x) : (b.toInt - x.toInt).toNat = 0 := by
  have := Int32.le_iff_toInt_le.mp h
  omega
theorem z_inc {b x : Int32} (h : ¬ b ≤ x) : (x + Int32.ofInt 1).toInt = x.toInt + 1 := by
  have h2 : ¬ b.toInt ≤ x.toInt := fun e => h (Int32.le_iff_toInt_le.mpr e)
  have hb := b.toInt_lt
  have hx := x.le_toInt
  have e : x + Int32.ofInt 1 = Int32.ofInt (x.toInt + 1) := by rw [Int32.ofInt_add, Int32.ofInt_toInt]
  rw [e]
  exact q_ofr (by omega) (by omega)
theorem z_rem {b x : Int32} (h : ¬ b ≤ x) : (b.toInt - x.toInt).toNat = (b.toInt - (x + Int32.ofInt 1).toInt).toNat + 1 := by
  have h2 : ¬ b.toInt ≤ x.toInt := fun e => h (Int32.le_iff_toInt_le.mpr e)
  rw [z_inc h]
  omega
/-- what is known of a run that ends holds of every run that ends -/
theorem u_of_w {L : Nat} {xs : Nat → Int32} {d0 : Nat} {M : g_M} {pc : Nat} {lc : g_Lc} {sc : List Value} {S : v_Sf} {R : v_Rf} {Q : Option Value → v_Sf → v_Rf → Prop} (h : w_T L xs d0 M pc lc sc S R Q) (n d : Nat) : u_P L xs n d M pc lc sc S R Q := by
  obtain ⟨k, r, S', R', a, q⟩ := h
  intro r2 σ h2
  have b1 := g_run_d L xs _ _ _ _ _ _ _ _ _ (Nat.le_max_left d0 d) (a n)
  have b2 := g_run_d L xs _ _ _ _ _ _ _ _ _ (Nat.le_max_right d0 d) (g_run_m L xs k h2)
  rw [Nat.add_comm n k, b1] at b2
  cases b2
  exact ⟨S', R', rfl, q⟩
noncomputable def f_X12_sizeOf (a : Int32) : Int32 := v_pop a
theorem c_X12_sizeOf (L : Nat) (xs : Nat → Int32) (n d : Nat) (a : Int32) (S : v_Sf) (R : v_Rf) : u_P L xs n d m_X12_sizeOf 0 (lv_args 0 [.int a]) [] S R (z_Q R (fun v S1 => f_X12_sizeOf a = v ∧ S = S1)) := u_of_w (d0 := 0) (h_sizeOf a ⟨_, rfl, rfl, rfl, rfl⟩) n d
theorem z_lt12 {k : Nat} (h : (Int32.ofInt 16 + z_i k).toInt < 28) (hk : k < 2000000000) : k < 12 := by
  have e : Int32.ofInt 16 + z_i k = z_i (16 + k) := by
    show Int32.ofInt ((16 : Nat) : Int) + Int32.ofInt (k : Int) = _
    rw [w_addn]
    rfl
  rw [e, z_itV (by omega)] at h
  omega
theorem z_wn1 {w : Int32} (h : w < 0) : ¬ (0 ≤ w.toInt ∧ w.toInt < ((6 : Nat) : Int)) := by
  have h2 := Int32.lt_iff_toInt_lt.mp h
  have e : (0 : Int32).toInt = 0 := rfl
  omega
theorem z_wn2 {w : Int32} (h : Int32.ofNat 6 ≤ w) : ¬ (0 ≤ w.toInt ∧ w.toInt < ((6 : Nat) : Int)) := by
  have h2 := Int32.le_iff_toInt_le.mp h
  have e : (Int32.ofNat 6).toInt = 6 := rfl
  omega
/-- a ward, or null -/
noncomputable def z_WD (R : v_Rf) (S : v_Sf) (w : Int32) (r : Option Value) (S' : v_Sf) (R' : v_Rf) : Prop := S = S' ∧ R = R' ∧ ((0 ≤ w.toInt ∧ w.toInt < ((6 : Nat) : Int)) ∧ some (.ref (33 + 2 * w.toInt.toNat + 1)) = r ∨ ¬ (0 ≤ w.toInt ∧ w.toInt < ((6 : Nat) : Int)) ∧ some .null = r)
theorem z_dn0 {x : Int32} (h : x < 0) : (x.toInt + 1).toNat = 0 := by
  have h2 := Int32.lt_iff_toInt_lt.mp h
  have e : (0 : Int32).toInt = 0 := rfl
  omega
theorem z_dn {x : Int32} (h : ¬ x < 0) : (x.toInt + 1).toNat = ((x + Int32.ofInt (-1)).toInt + 1).toNat + 1 := by
  have h2 : ¬ x.toInt < (0 : Int32).toInt := fun e => h (Int32.lt_iff_toInt_lt.mpr e)
  have e0 : (0 : Int32).toInt = 0 := rfl
  have hb := x.toInt_lt
  have e : x + Int32.ofInt (-1) = Int32.ofInt (x.toInt + (-1)) := by rw [Int32.ofInt_add, Int32.ofInt_toInt]
  rw [e, q_ofr (by omega) (by omega)]
  omega
theorem z_it3 {k : Nat} (h : k < 2147483648) : (z_i k).toInt = (k : Int) := q_ofr (by omega) (by omega)
theorem z_b31 (a : Int32) : a.toInt.toNat < 2147483648 := by
  have h := Int32.toInt_lt a
  omega
theorem z_leI {a b : Nat} (h : z_i a ≤ z_i b) (ha : a < 2147483648) (hb : b < 2147483648) : a ≤ b := by
  have h2 := Int32.le_iff_toInt_le.mp h
  rw [z_it3 ha, z_it3 hb] at h2
  omega
theorem z_ltI {a b : Nat} (h : ¬ z_i a ≤ z_i b) (ha : a < 2147483648) (hb : b < 2147483648) : b < a := by
  have h2 : ¬ (z_i a).toInt ≤ (z_i b).toInt := fun e => h (Int32.le_iff_toInt_le.mpr e)
  rw [z_it3 ha, z_it3 hb] at h2
  omega
theorem z_ltC {B k : Nat} (h : ¬ Int32.ofInt (B : Int) < z_i k) (hB : B < 2000000000) (hk : k < 2000000000) : k < B + 1 := by
  have h2 : ¬ (Int32.ofInt (B : Int)).toInt < (z_i k).toInt := fun e => h (Int32.lt_iff_toInt_lt.mpr e)
  rw [z_it hk, w_nat hB] at h2
  omega
theorem z_leC {B k : Nat} (h : Int32.ofInt (B : Int) < z_i k) (hB : B < 2000000000) (hk : k < 2000000000) : B + 1 ≤ k := by
  have h2 := Int32.lt_iff_toInt_lt.mp h
  rw [z_it hk, w_nat hB] at h2
  omega
noncomputable abbrev m_X5_readFactor : g_M := (g_cn 5, yX5_readFactor, cX5_readFactor, 4, none, g_look2 ttX5_readFactor)
/-- String.indexOf on the one String constant -/
theorem u_mac0 {L : Nat} {xs : Nat → Int32} {n d : Nat} {M : g_M} {pc : Nat} {lc : g_Lc} {sc sc' : List Value} {σ : List g_Ce} (hen : M.2.2.2.2.2 pc = none) (hm : g_mac d M pc lc sc = some sc') : g_run g_mt L xs (n + 1) d M pc lc sc σ = g_run g_mt L xs n d M 20 lc sc' σ := by
  rw [g_run]
  simp only [hen, hm]
theorem u_mac1 {L : Nat} {xs : Nat → Int32} {n d : Nat} {M : g_M} {pc : Nat} {lc : g_Lc} {sc : List Value} {σ : List g_Ce} (hen : M.2.2.2.2.2 pc = none) (hm : g_mac d M pc lc sc = none) : g_run g_mt L xs (n + 1) d M pc lc sc σ = none := by
  rw [g_run]
  simp only [hen, hm]
theorem u_mac {L : Nat} {xs : Nat → Int32} {n d : Nat} {lc : g_Lc} {S : v_Sf} {R : v_Rf} {Q : Option Value → v_Sf → v_Rf → Prop} {v : Int32} (hl : g_get lc 2 = some (.int v)) (k : u_P L xs n d m_X5_readFactor 20 lc [.int (g_ixo v)] S R Q) : u_P L xs n d m_X5_readFactor 13 lc [] S R Q := by
  intro r σ h
  cases n with
  | zero => exact u_zero (Q := Q) r σ h
  | succ n =>
    have hen : m_X5_readFactor.2.2.2.2.2 13 = none := rfl
    by_cases hd : 8 ≤ d
    · have hm : g_mac d m_X5_readFactor 13 lc [] = some [.int (g_ixo v)] := by
        unfold g_mac
        rw [if_pos ⟨rfl, rfl, rfl, rfl, rfl, hd⟩, hl]
      have e : g_run g_mt L xs (n + 1) d m_X5_readFactor 13 lc [] (v_mk v_ty S R) = g_run g_mt L xs n d m_X5_readFactor 20 lc [.int (g_ixo v)] (v_mk v_ty S R) := u_mac0 hen hm
      rw [e] at h
      exact k r σ (g_run_n L xs _ _ _ _ _ _ _ _ h)
    · exfalso
      have hm : g_mac d m_X5_readFactor 13 lc [] = none := by
        unfold g_mac
        rw [if_neg (fun q => hd q.2.2.2.2.2)]
      have e : g_run g_mt L xs (n + 1) d m_X5_readFactor 13 lc [] (v_mk v_ty S R) = none := u_mac1 hen hm
      rw [e] at h
      cases h
/-! loops without a counter -/
noncomputable def z_itr {α β : Type} (s : α → α ⊕ β) : Nat → α → Option β
  | 0, _ => none
  | n + 1, a => match s a with
    | .inl a' => z_itr s n a'
    | .inr b => some b
theorem z_itr_l {α β : Type} {s : α → α ⊕ β} {n : Nat} {a a' : α} (h : s a = .inl a') : z_itr s (n + 1) a = z_itr s n a' := by rw [z_itr, h]
theorem z_itr_r {α β : Type} {s : α → α ⊕ β} {n : Nat} {a : α} {b : β} (h : s a = .inr b) : z_itr s (n + 1) a = some b := by rw [z_itr, h]
theorem z_itr_m {α β : Type} (s : α → α ⊕ β) : ∀ (n : Nat) (a : α) (b : β), z_itr s n a = some b → z_itr s (n + 1) a = some b := by
  intro n
  induction n with
  | zero => intro a b h; cases h
  | succ n ih =>
    intro a b h
    cases hs : s a with
    | inl a' => rw [z_itr_l hs] at h ⊢; exact ih _ _ h
    | inr c => rw [z_itr_r hs] at h ⊢; exact h
theorem z_itr_k {α β : Type} (s : α → α ⊕ β) (n : Nat) (a : α) (b : β) (h : z_itr s n a = some b) : ∀ k, z_itr s (n + k) a = some b := by
  intro k
  induction k with
  | zero => exact h
  | succ k ih => exact z_itr_m s _ _ _ ih
theorem z_itr_u {α β : Type} {s : α → α ⊕ β} {n m : Nat} {a : α} {b c : β} (h1 : z_itr s n a = some b) (h2 : z_itr s m a = some c) : b = c := by
  have e1 := z_itr_k s n a b h1 m
  have e2 := z_itr_k s m a c h2 n
  rw [Nat.add_comm m n, e1] at e2
  exact Option.some.inj e2
noncomputable def z_lim {α β : Type} (s : α → α ⊕ β) (b0 : β) (a : α) : β := @dite β (∃ b, ∃ n, z_itr s n a = some b) (Classical.propDecidable _) (fun h => h.choose) (fun _ => b0)
theorem z_lim_eq {α β : Type} {s : α → α ⊕ β} {b0 : β} {n : Nat} {a : α} {b : β} (h : z_itr s n a = some b) : z_lim s b0 a = b := by
  have hx : ∃ b, ∃ n, z_itr s n a = some b := ⟨b, n, h⟩
  unfold z_lim
  rw [dif_pos hx]
  obtain ⟨m, hm⟩ := hx.choose_spec
  exact z_itr_u hm h
end PrtS42e
