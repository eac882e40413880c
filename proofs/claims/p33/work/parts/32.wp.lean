/-! roads by hand: a rule an instruction -/
def w_T (L : Nat) (xs : Nat → Int32) (d : Nat) (M : g_M) (pc : Nat) (lc : g_Lc) (sc : List Value) (S : v_Sf) (R : v_Rf) (Q : Option Value → v_Sf → v_Rf → Prop) : Prop := ∃ n r S' R', (∀ e, g_run g_mt L xs (n + e) d M pc lc sc (v_mk v_ty S R) = some (r, v_mk v_ty S' R')) ∧ Q r S' R'
section WP
variable {L : Nat} {xs : Nat → Int32} {d : Nat} {M : g_M} {pc : Nat} {lc : g_Lc} {sc : List Value} {S : v_Sf} {R : v_Rf} {Q : Option Value → v_Sf → v_Rf → Prop}
theorem w_one {en : g_En} {pc1 : Nat} {lc1 : g_Lc} {sc1 : List Value} {S1 : v_Sf} {R1 : v_Rf} (hen : M.2.2.2.2.2 pc = some en) (hs : g_step d M.2.2.2.1 L xs en pc lc sc (v_mk v_ty S R) = some (pc1, lc1, sc1, v_mk v_ty S1 R1)) (k : w_T L xs d M pc1 lc1 sc1 S1 R1 Q) : w_T L xs d M pc lc sc S R Q := by
  obtain ⟨n, r, S', R', h1, h2⟩ := k
  refine ⟨n + 1, r, S', R', fun e => ?_, h2⟩
  rw [show n + 1 + e = (n + e) + 1 by omega, g_run_step hen hs]
  exact h1 e
theorem w_st {en : g_En} {pc1 : Nat} {lc1 : g_Lc} {sc1 : List Value} (hen : M.2.2.2.2.2 pc = some en) (hs : ∀ σ, g_step d M.2.2.2.1 L xs en pc lc sc σ = some (pc1, lc1, sc1, σ)) (k : w_T L xs d M pc1 lc1 sc1 S R Q) : w_T L xs d M pc lc sc S R Q := w_one hen (hs _) k
/-- a jump of two roads: the step says which by a decided proposition -/
theorem w_br {en : g_En} {t f : Nat} {sc1 : List Value} {P : Prop} [hd : Decidable P] (hen : M.2.2.2.2.2 pc = some en) (hs : ∀ σ, g_step d M.2.2.2.1 L xs en pc lc sc σ = some (bif decide P then t else f, lc, sc1, σ)) (kt : P → w_T L xs d M t lc sc1 S R Q) (kf : ¬ P → w_T L xs d M f lc sc1 S R Q) : w_T L xs d M pc lc sc S R Q := by
  by_cases h : P
  · refine w_one hen ?_ (kt h)
    rw [hs, decide_eq_true h]
    rfl
  · refine w_one hen ?_ (kf h)
    rw [hs, decide_eq_false h]
    rfl
theorem w_ret {en : g_En} {r : Option Value} (hen : M.2.2.2.2.2 pc = some en) (hr : g_rt en.1.1 M.2.2.2.2.1 sc = some r) (q : Q r S R) : w_T L xs d M pc lc sc S R Q := ⟨1, r, S, R, fun e => by rw [show 1 + e = e + 1 by omega]; exact g_run_ret hen (g_step_ret hr) hr, q⟩
theorem w_ty {a : Nat} {c : v_Ct} (h : v_ty a = some c) (S : v_Sf) (R : v_Rf) : (v_mk v_ty S R)[a]? = some (v_cell S R a (some c)) := by
  rw [v_mk_get, if_pos (v_ty_lt a c h), h]
/-- getfield of a number -/
theorem w_get {i len ci y a : Nat} {z : Int} {fs : List v_Ft} {b : Int × Int} {t : List Value} (hen : M.2.2.2.2.2 pc = some ((.getfield i, len), ci, y, z)) (hg : v_ty a = some (.inr (.inr (ci, fs)))) (hf : fs[y]? = some (.inl b)) (k : w_T L xs d M (pc + len) lc (.int (S a y) :: t) S R Q) : w_T L xs d M pc lc (.ref (a + 1) :: t) S R Q := by
  refine w_one hen ?_ k
  refine g_st_hp (en := ((.getfield i, len), ci, y, z)) rfl rfl rfl (q := (.int (S a y) :: t, v_mk v_ty S R)) ?_
  have g1 := w_ty hg S R
  have g2 := v_fs_at (S := S) (R := R) (a := a) hf
  simp only [g_hp, g_gf, g1, v_cell, beq_self_eq_true, cond_true, g2]
  rfl
/-- getfield of a reference that stays -/
theorem w_getr {i len ci y a c : Nat} {z : Int} {fs : List v_Ft} {t : List Value} (hen : M.2.2.2.2.2 pc = some ((.getfield i, len), ci, y, z)) (hg : v_ty a = some (.inr (.inr (ci, fs)))) (hf : fs[y]? = some (.inr (.inl c))) (k : w_T L xs d M (pc + len) lc (.ref c :: t) S R Q) : w_T L xs d M pc lc (.ref (a + 1) :: t) S R Q := by
  refine w_one hen ?_ k
  refine g_st_hp (en := ((.getfield i, len), ci, y, z)) rfl rfl rfl (q := (.ref c :: t, v_mk v_ty S R)) ?_
  have g1 := w_ty hg S R
  have g2 := v_fs_at (S := S) (R := R) (a := a) hf
  simp only [g_hp, g_gf, g1, v_cell, beq_self_eq_true, cond_true, g2]
  rfl
theorem w_mkf {a ci y : Nat} {fs : List v_Ft} {b : Int × Int} (h : v_ty a = some (.inr (.inr (ci, fs)))) (hy : fs[y]? = some (.inl b)) (S : v_Sf) (R : v_Rf) (v : Int32) : (v_mk v_ty S R).set a (.inr (ci, (fs.mapIdx (fun j ft => v_fv S R a j ft)).set y (.int v))) = v_mk v_ty (v_ur S a (upd (S a) y v)) R := v_mk_fld (X := (0, fun _ => 0, (v_ty, [], fun _ _ _ => true, fun _ _ => none, fun _ _ _ _ _ => none), fun _ => True, S, R)) h hy S R v
theorem w_mkr {a tg n : Nat} {b : Int × Int} (h : v_ty a = some (.inl (tg, n, b))) (S : v_Sf) (R : v_Rf) (f : Nat → Int32) : (v_mk v_ty S R).set a (.inl (tg, n, .inl f)) = v_mk v_ty (v_ur S a f) R := v_mk_row (X := (0, fun _ => 0, (v_ty, [], fun _ _ _ => true, fun _ _ => none, fun _ _ _ _ _ => none), fun _ => True, S, R)) h S R f
/-- putfield of a number -/
theorem w_put {i len ci y a : Nat} {z : Int} {fs : List v_Ft} {b : Int × Int} {t : List Value} {v : Int32} (hen : M.2.2.2.2.2 pc = some ((.putfield i, len), ci, y, z)) (hg : v_ty a = some (.inr (.inr (ci, fs)))) (hf : fs[y]? = some (.inl b)) (hn : narrow (g_ty ci y) (.int v) = .int v) (hfit : fits (g_ty ci y) (.int v) = true) (k : w_T L xs d M (pc + len) lc t (v_ur S a (upd (S a) y v)) R Q) : w_T L xs d M pc lc (.int v :: .ref (a + 1) :: t) S R Q := by
  refine w_one hen ?_ k
  refine g_st_hp (en := ((.putfield i, len), ci, y, z)) rfl rfl rfl (q := (t, v_mk v_ty (v_ur S a (upd (S a) y v)) R)) ?_
  have g1 := w_ty hg S R
  have hl : y < (fs.mapIdx (fun j ft => v_fv S R a j ft)).length := by simpa using (List.getElem?_eq_some_iff.mp hf).1
  simp only [g_hp, g_pf, g1, v_cell]
  rw [if_pos ⟨trivial, hl, hn, hfit⟩, w_mkf hg hf]
/-- reads of rows -/
theorem w_iald {len x y a n : Nat} {z : Int} {b : Int × Int} {t : List Value} {i : Int32} (hen : M.2.2.2.2.2 pc = some ((.iaload, len), x, y, z)) (hg : v_ty a = some (.inl (0, n, b))) (h1 : 0 ≤ i.toInt) (h2 : i.toInt < (n : Int)) (k : w_T L xs d M (pc + len) lc (.int (S a i.toInt.toNat) :: t) S R Q) : w_T L xs d M pc lc (.int i :: .ref (a + 1) :: t) S R Q := by
  refine w_one hen ?_ k
  refine g_st_hp (en := ((.iaload, len), x, y, z)) rfl rfl rfl (q := (.int (S a i.toInt.toNat) :: t, v_mk v_ty S R)) ?_
  have g1 := w_ty hg S R
  obtain ⟨o1, o2⟩ := q_in32 h1 h2
  simp only [g_hp, g_ia, g1, v_cell, o1, o2, cond_false]
theorem w_bald {len x y a n tg : Nat} {z : Int} {b : Int × Int} {t : List Value} {i : Int32} (hen : M.2.2.2.2.2 pc = some ((.baload, len), x, y, z)) (hg : v_ty a = some (.inl (tg, n, b))) (htg : tg = 1 ∨ tg = 2) (h1 : 0 ≤ i.toInt) (h2 : i.toInt < (n : Int)) (k : w_T L xs d M (pc + len) lc (.int (S a i.toInt.toNat) :: t) S R Q) : w_T L xs d M pc lc (.int i :: .ref (a + 1) :: t) S R Q := by
  refine w_one hen ?_ k
  refine g_st_hp (en := ((.baload, len), x, y, z)) rfl rfl rfl (q := (.int (S a i.toInt.toNat) :: t, v_mk v_ty S R)) ?_
  have g1 := w_ty hg S R
  obtain ⟨o1, o2⟩ := q_in32 h1 h2
  rcases htg with rfl | rfl
  · simp only [g_hp, g_ba, g1, v_cell, o1, o2, cond_false]
  · simp only [g_hp, g_ba, g1, v_cell, o1, o2, cond_false]
/-- writes of rows -/
theorem w_iast {len x y a n : Nat} {z : Int} {b : Int × Int} {t : List Value} {i v : Int32} (hen : M.2.2.2.2.2 pc = some ((.iastore, len), x, y, z)) (hg : v_ty a = some (.inl (0, n, b))) (h1 : 0 ≤ i.toInt) (h2 : i.toInt < (n : Int)) (k : w_T L xs d M (pc + len) lc t (v_ur S a (upd (S a) i.toInt.toNat v)) R Q) : w_T L xs d M pc lc (.int v :: .int i :: .ref (a + 1) :: t) S R Q := by
  refine w_one hen ?_ k
  refine g_st_hp (en := ((.iastore, len), x, y, z)) rfl rfl rfl (q := (t, v_mk v_ty (v_ur S a (upd (S a) i.toInt.toNat v)) R)) ?_
  have g1 := w_ty hg S R
  obtain ⟨o1, o2⟩ := q_in32 h1 h2
  simp only [g_hp, g_is, g1, v_cell, o1, o2, cond_false]
  rw [w_mkr hg]
theorem w_bast {len x y a n tg : Nat} {z : Int} {b : Int × Int} {t : List Value} {i v : Int32} (hen : M.2.2.2.2.2 pc = some ((.bastore, len), x, y, z)) (hg : v_ty a = some (.inl (tg, n, b))) (htg : (tg = 1 ∧ vp_nar .byte v = v) ∨ (tg = 2 ∧ vp_nar .boolean v = v)) (h1 : 0 ≤ i.toInt) (h2 : i.toInt < (n : Int)) (k : w_T L xs d M (pc + len) lc t (v_ur S a (upd (S a) i.toInt.toNat v)) R Q) : w_T L xs d M pc lc (.int v :: .int i :: .ref (a + 1) :: t) S R Q := by
  refine w_one hen ?_ k
  refine g_st_hp (en := ((.bastore, len), x, y, z)) rfl rfl rfl (q := (t, v_mk v_ty (v_ur S a (upd (S a) i.toInt.toNat v)) R)) ?_
  have g1 := w_ty hg S R
  obtain ⟨o1, o2⟩ := q_in32 h1 h2
  rcases htg with ⟨rfl, hn⟩ | ⟨rfl, hn⟩
  · simp only [g_hp, g_bs, g1, v_cell, o1, o2, cond_false, hn]
    rw [w_mkr hg]
  · simp only [g_hp, g_bs, g1, v_cell, o1, o2, cond_false, hn]
    rw [w_mkr hg]
/-- a call of a static method -/
theorem w_cs {ix len x y d' : Nat} {z : Int} {M' : g_M} {ac rest : List Value} (hen : M.2.2.2.2.2 pc = some ((.invokestatic ix, len), x, y, z)) (hx : x < 77777) (hM : g_mt x = some M') (hc : ∀ σ, g_cl 0 y M'.1 sc σ = some (ac, rest)) (h1 : g_cat rest ≤ 8) (h2 : (lg_sl ac).length ≤ M'.2.2.2.1) (k : w_T L xs d' M' 0 (lv_args 0 ac) [] S R (fun r S1 R1 => w_T L xs (d' + 1) M (pc + 3) lc (r.toList ++ rest) S1 R1 Q)) : w_T L xs (d' + 1) M pc lc sc S R Q := by
  obtain ⟨n0, rv, S1, R1, a1, n1, rw1, S2, R2, b1, b2⟩ := k
  have hx9 : (x == 99999) = false := by simp; omega
  have h0 : g_step (d' + 1) M.2.2.2.1 L xs ((.invokestatic ix, len), x, y, z) pc lc sc (v_mk v_ty S R) = none := by
    show (match g_nv (d' + 1) x sc (v_mk v_ty S R) with
      | some q => _
      | none => none) = none
    rw [g_nv_none hx]
  refine ⟨n0 + n1 + 1, rw1, S2, R2, fun e => ?_, b2⟩
  rw [show n0 + n1 + 1 + e = n0 + (n1 + e) + 1 by omega]
  rw [g_run_call hen h0 rfl rfl hx9 hM (hc _) h1 h2 (a1 (n1 + e)), show n0 + (n1 + e) = n1 + (n0 + e) by omega]
  exact b1 _
/-- a call of a method of an object -/
theorem w_cv {ix len x y d' a ci : Nat} {z : Int} {M' : g_M} {q : vw_C} {fs : List v_Ft} {rest : List Value} (hen : M.2.2.2.2.2 pc = some ((.invokevirtual ix, len), x, y, z)) (hx : x < 77777) (hM : g_mt x = some M') (hg : v_ty a = some (.inr (.inr (ci, fs)))) (hq : vwCl[ci]? = some q) (how : q.1 = M'.1) (hdr : sc.drop y = .ref (a + 1) :: rest) (hle : y ≤ sc.length) (h1 : g_cat rest ≤ 8) (h2 : (lg_sl (.ref (a + 1) :: (sc.take y).reverse)).length ≤ M'.2.2.2.1) (k : w_T L xs d' M' 0 (lv_args 0 (.ref (a + 1) :: (sc.take y).reverse)) [] S R (fun r S1 R1 => w_T L xs (d' + 1) M (pc + 3) lc (r.toList ++ rest) S1 R1 Q)) : w_T L xs (d' + 1) M pc lc sc S R Q := by
  obtain ⟨n0, rv, S1, R1, a1, n1, rw1, S2, R2, b1, b2⟩ := k
  have hx9 : (x == 99999) = false := by simp; omega
  have g1 := w_ty hg S R
  have hc : g_cl 1 y M'.1 sc (v_mk v_ty S R) = some (.ref (a + 1) :: (sc.take y).reverse, rest) := by
    simp only [g_cl, hdr, g1, v_cell, hq]
    rw [if_pos ⟨how, hle⟩]
  refine ⟨n0 + n1 + 1, rw1, S2, R2, fun e => ?_, b2⟩
  rw [show n0 + n1 + 1 + e = n0 + (n1 + e) + 1 by omega]
  rw [g_run_call hen rfl rfl rfl hx9 hM hc h1 h2 (a1 (n1 + e)), show n0 + (n1 + e) = n1 + (n0 + e) by omega]
  exact b1 _
/-- a callee by its row -/
theorem w_met {x d' : Nat} {w : v_Rw} (hm : v_Met L xs v_ty v_Op x w) (hd : w.1 ≤ d') {M' : g_M} (hM : g_mt x = some M') {ac : List Value} (ha : q_al2 v_ac1 w.2.1 ac) (hT : v_Tb v_ty S R) (hO : v_Op S) (k : ∀ r S1 R1, v_Tb v_ty S1 R1 → v_Op S1 → v_rk1 w.2.2.1 r → v_Fr w.2.2.2 S R S1 R1 → Q r S1 R1) : w_T L xs d' M' 0 (lv_args 0 ac) [] S R Q := by
  obtain ⟨n, r, S', R', a1, a2, a3, a4, a5⟩ := hm M' hM ac S R ha hT hO
  exact ⟨n, r, S', R', fun e => g_run_d _ _ _ _ _ _ _ _ _ _ _ hd (a1 e), k r S' R' a2 a3 a4 a5⟩
theorem w_mono {Q' : Option Value → v_Sf → v_Rf → Prop} (h : w_T L xs d M pc lc sc S R Q) (k : ∀ r S1 R1, Q r S1 R1 → Q' r S1 R1) : w_T L xs d M pc lc sc S R Q' := by
  obtain ⟨n, r, S', R', a1, a2⟩ := h
  exact ⟨n, r, S', R', a1, k _ _ _ a2⟩
theorem w_dm {d' : Nat} (hd : d ≤ d') (h : w_T L xs d M pc lc sc S R Q) : w_T L xs d' M pc lc sc S R Q := by
  obtain ⟨n, r, S', R', a1, a2⟩ := h
  exact ⟨n, r, S', R', fun e => g_run_d _ _ _ _ _ _ _ _ _ _ _ hd (a1 e), a2⟩
end WP
